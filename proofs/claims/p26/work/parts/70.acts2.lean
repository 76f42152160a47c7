/-! the acts of both: putIn, takeOut, turnTo, stock -/
def o133 (F : eRow) (s a b : Int) : Int × Option eRow :=
  if 0 ≤ s ∧ s ≤ 5 then (if 0 ≤ a ∧ a ≤ 2 then (if 50 ≤ b ∧ b ≤ 150 then (if F (lx s 0) = -5 then (lfF (comF F s a b) s, some (comF F s a b)) else (-4, none)) else (-2, none)) else (-2, none)) else (-1, none)
def o134 (F : eRow) (s : Int) : Int × Option eRow :=
  if 0 ≤ s ∧ s ≤ 5 then (if F (lx s 0) = -5 then (-4, none) else if F 10 = 1 ∧ s = F 7 then (-4, none) else (F (lx s 2), some (fu F (lx s 0) (-5)))) else (-1, none)
def o135 (F : eRow) (s : Int) : Int × Option eRow :=
  if 0 ≤ s ∧ s ≤ 5 then (if F 8 = -5 then (if s = F 7 then (-5, none) else (turF F s 9, some (turF F s))) else (-4, none)) else (-1, none)
def o136 (F : eRow) (a b : Int) : Int × Option eRow :=
  if 0 ≤ a ∧ a ≤ 2 then (if 1 ≤ b ∧ b ≤ 6 then (if 99 < F (41 + a).toNat + b then (-3, none) else (F (41 + a).toNat + b, some (fu F (41 + a).toNat (F (41 + a).toNat + b)))) else (-2, none)) else (-2, none)
theorem m133_o {D : eD} {s a b : Int} : m133 D s a b = ((o133 (D 159) s a b).1, mAf D (o133 (D 159) s a b).2) := by
  unfold m133 o133
  repeat' split
  all_goals rfl
theorem m134_o {D : eD} {s : Int} : m134 D s = ((o134 (D 159) s).1, mAf D (o134 (D 159) s).2) := by
  unfold m134 o134
  repeat' split
  all_goals rfl
theorem m135_o {D : eD} {s : Int} : m135 D s = ((o135 (D 159) s).1, mAf D (o135 (D 159) s).2) := by
  unfold m135 o135
  repeat' split
  all_goals rfl
theorem m136_o {D : eD} {a b : Int} : m136 D a b = ((o136 (D 159) a b).1, mAf D (o136 (D 159) a b).2) := by
  unfold m136 o136
  repeat' split
  all_goals rfl
theorem Sok_of {F G : eRow} (h : Sok F) (hs : St G) (e : ∀ j, j = 0 ∨ (43 < j ∧ j < 80) → G j = F j) : Sok G := by
  obtain ⟨hs', hc, ho, h0⟩ := h
  refine ⟨hs, ?_, ⟨?_, Srt_of ho.2 (St_b hs').1 (fun j _ _ => e j (by omega))⟩, ?_⟩
  · unfold Ct at hc ⊢
    rw [e 0 (by omega), e 44 (by omega), e 45 (by omega), e 46 (by omega), e 47 (by omega), e 48 (by omega)]
    exact hc
  · rw [e 45 (by omega), e 46 (by omega)]; exact ho.1
  · rw [e 0 (by omega)]; exact h0
/-- a lamp is taken out of the row -/
theorem St_out {F : eRow} {k : Int} (h : St F) (h1 : 0 ≤ k) (h2 : k ≤ 5) : St (fu F (lx k 0) (-5)) := by
  have hl := h.1 k h1 h2
  obtain ⟨b1, b2, b3, b4, b5, b6, b7, b8⟩ := hl
  have n1 : lx k 1 ≠ lx k 0 := by unfold lx; omega
  have n2 : lx k 2 ≠ lx k 0 := by unfold lx; omega
  have n3 : lx k 3 ≠ lx k 0 := by unfold lx; omega
  have n4 : lx k 4 ≠ lx k 0 := by unfold lx; omega
  refine St_l1 h h1 h2 (fun j hj => fu_ne (by unfold lx at hj ⊢; omega)) ?_
  unfold LmB
  rw [fu_ne n1, fu_ne n2, fu_ne n3, fu_ne n4, fu_eq]
  omega
theorem Rel_out {D : eD} {b : Nat} {F : eRow} {k : Int} (hR : Rel D b F) (hF : St F) (k0 : 0 ≤ k) (k5 : k ≤ 5) : Rel (up D (lw (b + 3) k) 0 (-1)) b (fu F (lx k 0) (-5)) ∧ ∀ K, (K < b ∨ b + 19 < K) → up D (lw (b + 3) k) 0 (-1) K = D K := by
  have z := lw_in (w := b + 3) k0 k5
  have n : ∀ K, K ≠ lw (b + 3) k → up D (lw (b + 3) k) 0 (-1) K = D K := fun K hK => by funext j; rw [up_ne1 hK]
  obtain ⟨u1, u2, u3⟩ := LmR_b (hR.2.2.2.1.2.1 k k0 k5) (hF.1 k k0 k5)
  refine ⟨?_, fun K hK => n K (by omega)⟩
  refine Rel_lm hR hF k0 k5 n (fun j hj => fu_ne (by unfold lx at hj ⊢; omega)) (Or.inl ?_)
  rw [up_eq, up_ne2 (by decide), up_ne2 (by decide), up_ne2 (by decide), fu_eq]
  exact ⟨rfl, rfl, u1, u2, u3⟩
theorem Rel_mk {D : eD} {b : Nat} {F : eRow} {k i v : Int} (hR : Rel D b F) (hF : St F) (k0 : 0 ≤ k) (k5 : k ≤ 5) (h1 : 0 ≤ i) (h2 : i ≤ 2) : Rel (mkL D (lw (b + 3) k) i v) b (comF F k i v) ∧ ∀ K, (K < b ∨ b + 19 < K) → mkL D (lw (b + 3) k) i v K = D K := by
  have z := lw_in (w := b + 3) k0 k5
  have n : ∀ K, K ≠ lw (b + 3) k → mkL D (lw (b + 3) k) i v K = D K := fun K hK => by
    unfold mkL
    funext j; rw [up_ne1 hK, up_ne1 hK, up_ne1 hK, up_ne1 hK, up_ne1 hK, up_ne1 hK]
  refine ⟨?_, fun K hK => n K (by omega)⟩
  refine Rel_lm hR hF k0 k5 n (fun j hj => comF_ne k0 hj) (Or.inr ?_)
  obtain ⟨e0, e1, e2, e3, e4⟩ := comF_at (F := F) (k := k) (a := i) (b := v) k0
  unfold lfF
  rw [e0, e1, e2, e3, e4]
  unfold mkL
  simp (disch := first | assumption | omega | decide | exact b2i_01 _) only [up_eq, up_ne2, true_and, and_true]
  exact ⟨h1, h2⟩
section SPEC70
variable {S : List Int} {D E : eD} {h : eH} {Q : Option eV → eH → Prop} {F G P T X : eRow} {n k len w v s a b : Int}
theorem c70 (hS : S.length ≤ 2048) (hC : CW D F P T X n k len) (hW : RW F P T X n k len) :
    ∃ D1 : eD, Af D1 F P T X n k len (o133 F s a b).2 ∧ (∀ K, 158 ≤ K → D1 K = D K) ∧ ∀ Q, (wp 70 0 [.inr (.inl 8), .inl s, .inl a, .inl b, .inr (.inl 0)] [] (hp S D) Q ↔ Q (some (.inl (o133 F s a b).1)) (hp S D1)) := by
  have t8 : tg 8 = 7 := rfl
  have t9 : tg 9 = 0 := rfl
  have t12 : tg 12 = 6 := rfl
  unfold o133
  by_cases h1 : 0 ≤ s ∧ s ≤ 5
  · rw [if_pos h1]
    have t3 : tg (lw 12 s) = 3 := lw_tg t12
    have tn := tg_ne0 t3 (by decide)
    have hth := LmR_th (hC.1.2.2.2.1.2.1 s h1.1 h1.2)
    by_cases h2 : 0 ≤ a ∧ a ≤ 2
    · rw [if_pos h2]
      by_cases h3 : 50 ≤ b ∧ b ≤ 150
      · rw [if_pos h3]
        by_cases h4 : F (lx s 0) = -5
        · rw [if_pos h4]
          have h4' : ¬ ¬ D (lw 12 s) 0 = -1 := fun z => hth.mp z h4
          obtain ⟨D1, i1, i2, i3⟩ := cRec (S := S) hS hC hW
          have R := Rel_mk (k := s) (i := a) (v := b) i1.1 hW.1.1 h1.1 h1.2 h2.1 h2.2
          have e : lfF (comF F s a b) s = lifeF a b := by
            obtain ⟨e0, e1, e2, e3, e4⟩ := comF_at (F := F) (k := s) (a := a) (b := b) h1.1
            unfold lfF
            rw [e0, e1]
          have e2 : mkL D1 (lw 12 s) a b (lw 12 s) 2 = lifeF a b := by
            unfold mkL
            rw [up_ne2 (by decide), up_ne2 (by decide), up_ne2 (by decide), up_eq]
          have c24' := fun Q' => c24 (S := S) (D := D1) (Q := Q') t3 hS h2.1 h2.2 h3.1 h3.2
          refine ⟨mkL D1 (lw 12 s) a b, CW_b i1 R.1 R.2, fun K hK => (R.2 K (by omega)).trans (i2 K (by omega)), fun Q => ?_⟩
          rw [e]
          simp (disch := first | assumption | omega | decide | exact b2i_01 _ | (unfold lx; omega)) only [s70_0, s70_1, s70_4, s70_7, s70_8, s70_9, s70_10, s70_13, s70_16, s70_17, s70_19, s70_22, s70_25, s70_28, s70_30, s70_31, s70_32, s70_35, s70_38, s70_39, s70_42, s70_44, s70_46, s70_49, s70_52, s70_54, s70_55, s70_56, s70_59, s70_60, s70_63, s70_66, s70_68, s70_69, s70_70, s70_73, s70_75, s70_78, kont_some, kont_none, w32_of, if_true, if_false, tdv, tmd, setA_eq, up_setA, rd_hi, Int.reduceToNat, if_neg (show ¬ (1 : Int) = 0 by decide), Nat.reduceAdd, c94, b2i_t h1, c95, b2i_t h2, c91, b2i_t h3, c56, c27, b2i_f h4', i3, c24', e2]
        · rw [if_neg h4]
          have h4' := hth.mpr h4
          refine ⟨D, hC, fun _ _ => rfl, fun Q => ?_⟩
          simp (disch := first | assumption | omega | decide | exact b2i_01 _ | (unfold lx; omega)) only [s70_0, s70_1, s70_4, s70_7, s70_8, s70_9, s70_10, s70_13, s70_16, s70_17, s70_19, s70_22, s70_25, s70_28, s70_30, s70_31, s70_32, s70_35, s70_38, s70_39, s70_42, s70_44, s70_46, s70_49, s70_52, s70_54, s70_55, s70_56, s70_59, s70_60, s70_63, s70_66, s70_68, s70_69, s70_70, s70_73, s70_75, s70_78, kont_some, kont_none, w32_of, if_true, if_false, tdv, tmd, setA_eq, up_setA, rd_hi, Int.reduceToNat, if_neg (show ¬ (1 : Int) = 0 by decide), Nat.reduceAdd, c94, b2i_t h1, c95, b2i_t h2, c91, b2i_t h3, c56, c27, b2i_t h4']
      · rw [if_neg h3]
        refine ⟨D, hC, fun _ _ => rfl, fun Q => ?_⟩
        simp (disch := first | assumption | omega | decide | exact b2i_01 _ | (unfold lx; omega)) only [s70_0, s70_1, s70_4, s70_7, s70_8, s70_9, s70_10, s70_13, s70_16, s70_17, s70_19, s70_22, s70_25, s70_28, s70_30, s70_31, s70_32, s70_35, s70_38, s70_39, s70_42, s70_44, s70_46, s70_49, s70_52, s70_54, s70_55, s70_56, s70_59, s70_60, s70_63, s70_66, s70_68, s70_69, s70_70, s70_73, s70_75, s70_78, kont_some, kont_none, w32_of, if_true, if_false, tdv, tmd, setA_eq, up_setA, rd_hi, Int.reduceToNat, if_neg (show ¬ (1 : Int) = 0 by decide), Nat.reduceAdd, c94, b2i_t h1, c95, b2i_t h2, c91, b2i_f h3]
    · rw [if_neg h2]
      refine ⟨D, hC, fun _ _ => rfl, fun Q => ?_⟩
      simp (disch := first | assumption | omega | decide | exact b2i_01 _ | (unfold lx; omega)) only [s70_0, s70_1, s70_4, s70_7, s70_8, s70_9, s70_10, s70_13, s70_16, s70_17, s70_19, s70_22, s70_25, s70_28, s70_30, s70_31, s70_32, s70_35, s70_38, s70_39, s70_42, s70_44, s70_46, s70_49, s70_52, s70_54, s70_55, s70_56, s70_59, s70_60, s70_63, s70_66, s70_68, s70_69, s70_70, s70_73, s70_75, s70_78, kont_some, kont_none, w32_of, if_true, if_false, tdv, tmd, setA_eq, up_setA, rd_hi, Int.reduceToNat, if_neg (show ¬ (1 : Int) = 0 by decide), Nat.reduceAdd, c94, b2i_t h1, c95, b2i_f h2]
  · rw [if_neg h1]
    refine ⟨D, hC, fun _ _ => rfl, fun Q => ?_⟩
    simp (disch := first | assumption | omega | decide | exact b2i_01 _ | (unfold lx; omega)) only [s70_0, s70_1, s70_4, s70_7, s70_8, s70_9, s70_10, s70_13, s70_16, s70_17, s70_19, s70_22, s70_25, s70_28, s70_30, s70_31, s70_32, s70_35, s70_38, s70_39, s70_42, s70_44, s70_46, s70_49, s70_52, s70_54, s70_55, s70_56, s70_59, s70_60, s70_63, s70_66, s70_68, s70_69, s70_70, s70_73, s70_75, s70_78, kont_some, kont_none, w32_of, if_true, if_false, tdv, tmd, setA_eq, up_setA, rd_hi, Int.reduceToNat, if_neg (show ¬ (1 : Int) = 0 by decide), Nat.reduceAdd, c94, b2i_f h1]
theorem s_putIn (hS : S.length ≤ 2048) (hW : Wd D) : Sa S D 70 [.inr (.inl 8), .inl s, .inl a, .inl b, .inr (.inl 0)] (o133 (D 159) s a b) := by
  refine act_stp hW (c70 hS hW.1 hW.2) (fun G hG => ?_)
  · unfold o133 at hG
    split at hG
    · next h1 =>
      split at hG
      · next h2 =>
        split at hG
        · next h3 =>
          split at hG
          · cases hG
            have q4 := lx_b (p := 4) h1.1 h1.2 (by omega) (by omega)
            have q0 := lx_b (p := 0) h1.1 h1.2 (by omega) (by omega)
            exact Sok_of hW.2.1 (St_com hW.2.1.1 h1.1 h1.2 h2.1 h2.2 h3.1 h3.2) (fun j hj => comF_ne h1.1 (by omega))
          · cases hG
        · cases hG
      · cases hG
    · cases hG
theorem c71 (hS : S.length ≤ 2048) (hC : CW D F P T X n k len) (hW : RW F P T X n k len) :
    ∃ D1 : eD, Af D1 F P T X n k len (o134 F s).2 ∧ (∀ K, 158 ≤ K → D1 K = D K) ∧ ∀ Q, (wp 71 0 [.inr (.inl 8), .inl s, .inr (.inl 0), .inr (.inl 0)] [] (hp S D) Q ↔ Q (some (.inl (o134 F s).1)) (hp S D1)) := by
  have t8 : tg 8 = 7 := rfl
  have t9 : tg 9 = 0 := rfl
  have t12 : tg 12 = 6 := rfl
  unfold o134
  by_cases h1 : 0 ≤ s ∧ s ≤ 5
  · rw [if_pos h1]
    have t3 : tg (lw 12 s) = 3 := lw_tg t12
    have tn := tg_ne0 t3 (by decide)
    have hL := hC.1.2.2.2.1.2.1 s h1.1 h1.2
    have hth := LmR_th hL
    obtain ⟨w2, w3, w4, w5⟩ := hC.1.2.2.2.1.1
    have f10 := hW.1.1.2.2.2.2.2.2.2.2.2.2.1
    have hbb : (¬ D 12 5 = 0 ∧ D 12 2 = s) ↔ (F 10 = 1 ∧ s = F 7) := by
      have w2' : D 12 2 = F 7 := w2
      have w5' : D 12 5 = F 10 := w5
      omega
    by_cases h4 : F (lx s 0) = -5
    · rw [if_pos h4]
      have h4' : ¬ ¬ D (lw 12 s) 0 = -1 := fun z => hth.mp z h4
      refine ⟨D, hC, fun _ _ => rfl, fun Q => ?_⟩
      simp (disch := first | assumption | omega | decide | exact b2i_01 _ | (unfold lx; omega)) only [s71_0, s71_1, s71_4, s71_7, s71_8, s71_9, s71_10, s71_13, s71_16, s71_17, s71_20, s71_21, s71_22, s71_25, s71_28, s71_29, s71_32, s71_35, s71_36, s71_39, s71_42, s71_44, s71_45, s71_46, s71_49, s71_50, s71_53, s71_56, s71_57, s71_60, s71_61, s71_62, s71_65, s71_66, kont_some, kont_none, w32_of, if_true, if_false, tdv, tmd, setA_eq, up_setA, rd_hi, Int.reduceToNat, if_neg (show ¬ (1 : Int) = 0 by decide), Nat.reduceAdd, c94, b2i_t h1, c56, c27, b2i_f h4']
    · rw [if_neg h4]
      have h4' := hth.mpr h4
      by_cases h5 : F 10 = 1 ∧ s = F 7
      · rw [if_pos h5]
        have h5' := hbb.mpr h5
        refine ⟨D, hC, fun _ _ => rfl, fun Q => ?_⟩
        simp (disch := first | assumption | omega | decide | exact b2i_01 _ | (unfold lx; omega)) only [s71_0, s71_1, s71_4, s71_7, s71_8, s71_9, s71_10, s71_13, s71_16, s71_17, s71_20, s71_21, s71_22, s71_25, s71_28, s71_29, s71_32, s71_35, s71_36, s71_39, s71_42, s71_44, s71_45, s71_46, s71_49, s71_50, s71_53, s71_56, s71_57, s71_60, s71_61, s71_62, s71_65, s71_66, kont_some, kont_none, w32_of, if_true, if_false, tdv, tmd, setA_eq, up_setA, rd_hi, Int.reduceToNat, if_neg (show ¬ (1 : Int) = 0 by decide), Nat.reduceAdd, c94, b2i_t h1, c56, c27, b2i_t h4', c57, b2i_t h5']
      · rw [if_neg h5]
        have h5' := fun z => h5 (hbb.mp z)
        obtain ⟨D1, i1, i2, i3⟩ := cRec (S := S) hS hC hW
        have R := Rel_out i1.1 hW.1.1 h1.1 h1.2
        have z := lw_in (w := 12) h1.1 h1.2
        have e3 : D1 (lw 12 s) 3 = F (lx s 2) := by
          rw [i2 _ (by omega)]
          exact (hL.resolve_left (fun z => h4 z.2.1)).2.2.2.2.1
        have c25' := fun Q' => c25 (S := S) (D := D1) (Q := Q') t3
        refine ⟨up D1 (lw 12 s) 0 (-1), CW_b i1 R.1 R.2, fun K hK => (R.2 K (by omega)).trans (i2 K (by omega)), fun Q => ?_⟩
        simp (disch := first | assumption | omega | decide | exact b2i_01 _ | (unfold lx; omega)) only [s71_0, s71_1, s71_4, s71_7, s71_8, s71_9, s71_10, s71_13, s71_16, s71_17, s71_20, s71_21, s71_22, s71_25, s71_28, s71_29, s71_32, s71_35, s71_36, s71_39, s71_42, s71_44, s71_45, s71_46, s71_49, s71_50, s71_53, s71_56, s71_57, s71_60, s71_61, s71_62, s71_65, s71_66, kont_some, kont_none, w32_of, if_true, if_false, tdv, tmd, setA_eq, up_setA, rd_hi, Int.reduceToNat, if_neg (show ¬ (1 : Int) = 0 by decide), Nat.reduceAdd, c94, b2i_t h1, c56, c27, b2i_t h4', c57, b2i_f h5', i3, e3, c25']
  · rw [if_neg h1]
    refine ⟨D, hC, fun _ _ => rfl, fun Q => ?_⟩
    simp (disch := first | assumption | omega | decide | exact b2i_01 _ | (unfold lx; omega)) only [s71_0, s71_1, s71_4, s71_7, s71_8, s71_9, s71_10, s71_13, s71_16, s71_17, s71_20, s71_21, s71_22, s71_25, s71_28, s71_29, s71_32, s71_35, s71_36, s71_39, s71_42, s71_44, s71_45, s71_46, s71_49, s71_50, s71_53, s71_56, s71_57, s71_60, s71_61, s71_62, s71_65, s71_66, kont_some, kont_none, w32_of, if_true, if_false, tdv, tmd, setA_eq, up_setA, rd_hi, Int.reduceToNat, if_neg (show ¬ (1 : Int) = 0 by decide), Nat.reduceAdd, c94, b2i_f h1]
theorem s_takeOut (hS : S.length ≤ 2048) (hW : Wd D) : Sa S D 71 [.inr (.inl 8), .inl s, .inr (.inl 0), .inr (.inl 0)] (o134 (D 159) s) := by
  refine act_stp hW (c71 hS hW.1 hW.2) (fun G hG => ?_)
  · unfold o134 at hG
    split at hG
    · next h1 =>
      split at hG
      · cases hG
      · split at hG
        · cases hG
        · cases hG
          have q0 := lx_b (p := 0) h1.1 h1.2 (by omega) (by omega)
          exact Sok_of hW.2.1 (St_out hW.2.1.1 h1.1 h1.2) (fun j hj => fu_ne (by omega))
    · cases hG
theorem c72 (hS : S.length ≤ 2048) (hC : CW D F P T X n k len) (hW : RW F P T X n k len) :
    ∃ D1 : eD, Af D1 F P T X n k len (o135 F s).2 ∧ (∀ K, 158 ≤ K → D1 K = D K) ∧ ∀ Q, (wp 72 0 [.inr (.inl 8), .inl s] [] (hp S D) Q ↔ Q (some (.inl (o135 F s).1)) (hp S D1)) := by
  have t8 : tg 8 = 7 := rfl
  have t9 : tg 9 = 0 := rfl
  have t10 : tg 10 = 100 := rfl
  have t12 : tg 12 = 6 := rfl
  unfold o135
  by_cases h1 : 0 ≤ s ∧ s ≤ 5
  · rw [if_pos h1]
    have w2 : D 12 2 = F 7 := hC.1.2.2.2.1.1.1
    have w3 : D 12 3 = F 8 := hC.1.2.2.2.1.1.2.1
    by_cases h2 : F 8 = -5
    · rw [if_pos h2]
      have h2' : ¬ ¬ D 12 3 = -5 := fun z => z (w3.trans h2)
      by_cases h3 : s = F 7
      · rw [if_pos h3]
        refine ⟨D, hC, fun _ _ => rfl, fun Q => ?_⟩
        simp (disch := first | assumption | omega | decide | exact b2i_01 _ | (unfold lx; omega)) only [s72_0, s72_1, s72_4, s72_7, s72_8, s72_9, s72_10, s72_13, s72_16, s72_19, s72_22, s72_24, s72_25, s72_26, s72_29, s72_32, s72_35, s72_36, s72_39, s72_41, s72_42, s72_43, s72_46, s72_47, s72_50, s72_53, s72_54, s72_57, s72_60, s72_61, s72_62, s72_65, s72_68, s72_69, s72_72, s72_75, s72_76, s72_79, s72_82, s72_85, kont_some, kont_none, w32_of, if_true, if_false, tdv, tmd, setA_eq, up_setA, rd_hi, Int.reduceToNat, if_neg (show ¬ (1 : Int) = 0 by decide), Nat.reduceAdd, c94, b2i_t h1, c58, b2i_f h2', w2, if_pos h3.symm]
      · rw [if_neg h3]
        obtain ⟨D1, i1, i2, i3⟩ := cRec (S := S) hS hC hW
        have f7 := hW.1.1.2.2.2.2.2.2.2.2.1
        have f5 := hW.1.1.2.2.2.2.2.2.1
        have u2 : D1 12 2 = F 7 := i1.1.2.2.2.1.1.1
        have u5 : rat S D1 10 2 = F 5 := ((rat_b t9).1 (by decide) (by decide)).trans (i1.1.2.1 2 (by omega))
        have c59' := fun Q' => c59 (S := S) (D := D1) (Q := Q') (s := s) (t := F 5) t12 h1.1 h1.2 (by omega) (by omega) (by omega) (by omega)
        have g : ∀ K, K ≠ 12 → up (up (up D1 12 5 0) 12 3 s) 12 4 ((s - D1 12 2) % 6 * F 5) K = D1 K := fun K hK => by funext j; rw [up_ne1 hK, up_ne1 hK, up_ne1 hK]
        have et : turF F s 9 = (s - F 7) % 6 * F 5 := by
          unfold turF
          rw [fu_ne (by decide), fu_eq, show (s - F 7 + 6) % 6 = (s - F 7) % 6 by omega]
        have R : Rel (up (up (up D1 12 5 0) 12 3 s) 12 4 ((s - D1 12 2) % 6 * F 5)) 9 (turF F s) := by
          refine Rel_wh i1.1 hW.1.1 g (fun j hj => turF_ne (by omega)) ?_ ?_ ?_ ?_
          · show up (up (up D1 12 5 0) 12 3 s) 12 4 ((s - D1 12 2) % 6 * F 5) 12 2 = _
            rw [up_ne2 (by decide), up_ne2 (by decide), up_ne2 (by decide), turF_ne (by omega), u2]
          · show up (up (up D1 12 5 0) 12 3 s) 12 4 ((s - D1 12 2) % 6 * F 5) 12 3 = _
            rw [up_ne2 (by decide), up_eq]
            unfold turF
            rw [fu_ne (by decide), fu_ne (by decide), fu_eq]
          · show up (up (up D1 12 5 0) 12 3 s) 12 4 ((s - D1 12 2) % 6 * F 5) 12 4 = _
            rw [up_eq, et, u2]
          · show up (up (up D1 12 5 0) 12 3 s) 12 4 ((s - D1 12 2) % 6 * F 5) 12 5 = _
            rw [up_ne2 (by decide), up_ne2 (by decide), up_eq]
            unfold turF
            rw [fu_eq]
        refine ⟨_, CW_b i1 R (fun K hK => g K (by omega)), fun K hK => (g K (by omega)).trans (i2 K (by omega)), fun Q => ?_⟩
        rw [et]
        simp (disch := first | assumption | omega | decide | exact b2i_01 _ | (unfold lx; omega)) only [s72_0, s72_1, s72_4, s72_7, s72_8, s72_9, s72_10, s72_13, s72_16, s72_19, s72_22, s72_24, s72_25, s72_26, s72_29, s72_32, s72_35, s72_36, s72_39, s72_41, s72_42, s72_43, s72_46, s72_47, s72_50, s72_53, s72_54, s72_57, s72_60, s72_61, s72_62, s72_65, s72_68, s72_69, s72_72, s72_75, s72_76, s72_79, s72_82, s72_85, kont_some, kont_none, w32_of, if_true, if_false, tdv, tmd, setA_eq, up_setA, rd_hi, Int.reduceToNat, if_neg (show ¬ (1 : Int) = 0 by decide), Nat.reduceAdd, c94, b2i_t h1, c58, b2i_f h2', w2, if_neg (show ¬ F 7 = s from fun z => h3 (Eq.symm z)), i3, c51, u5, c59', up_eq]
        rw [u2]
    · rw [if_neg h2]
      have h2' : ¬ D 12 3 = -5 := fun z => h2 (w3.symm.trans z)
      refine ⟨D, hC, fun _ _ => rfl, fun Q => ?_⟩
      simp (disch := first | assumption | omega | decide | exact b2i_01 _ | (unfold lx; omega)) only [s72_0, s72_1, s72_4, s72_7, s72_8, s72_9, s72_10, s72_13, s72_16, s72_19, s72_22, s72_24, s72_25, s72_26, s72_29, s72_32, s72_35, s72_36, s72_39, s72_41, s72_42, s72_43, s72_46, s72_47, s72_50, s72_53, s72_54, s72_57, s72_60, s72_61, s72_62, s72_65, s72_68, s72_69, s72_72, s72_75, s72_76, s72_79, s72_82, s72_85, kont_some, kont_none, w32_of, if_true, if_false, tdv, tmd, setA_eq, up_setA, rd_hi, Int.reduceToNat, if_neg (show ¬ (1 : Int) = 0 by decide), Nat.reduceAdd, c94, b2i_t h1, c58, b2i_t h2']
  · rw [if_neg h1]
    refine ⟨D, hC, fun _ _ => rfl, fun Q => ?_⟩
    simp (disch := first | assumption | omega | decide | exact b2i_01 _ | (unfold lx; omega)) only [s72_0, s72_1, s72_4, s72_7, s72_8, s72_9, s72_10, s72_13, s72_16, s72_19, s72_22, s72_24, s72_25, s72_26, s72_29, s72_32, s72_35, s72_36, s72_39, s72_41, s72_42, s72_43, s72_46, s72_47, s72_50, s72_53, s72_54, s72_57, s72_60, s72_61, s72_62, s72_65, s72_68, s72_69, s72_72, s72_75, s72_76, s72_79, s72_82, s72_85, kont_some, kont_none, w32_of, if_true, if_false, tdv, tmd, setA_eq, up_setA, rd_hi, Int.reduceToNat, if_neg (show ¬ (1 : Int) = 0 by decide), Nat.reduceAdd, c94, b2i_f h1]
theorem s_turnTo (hS : S.length ≤ 2048) (hW : Wd D) : Sa S D 72 [.inr (.inl 8), .inl s] (o135 (D 159) s) := by
  refine act_stp hW (c72 hS hW.1 hW.2) (fun G hG => ?_)
  · unfold o135 at hG
    split at hG
    · next h1 =>
      split at hG
      · split at hG
        · cases hG
        · next h3 =>
          cases hG
          exact Sok_of hW.2.1 (St_tur hW.2.1.1 h1.1 h1.2 h3) (fun j hj => turF_ne (by omega))
      · cases hG
    · cases hG
theorem c73 (hS : S.length ≤ 2048) (hC : CW D F P T X n k len) (hW : RW F P T X n k len) :
    ∃ D1 : eD, Af D1 F P T X n k len (o136 F a b).2 ∧ (∀ K, 158 ≤ K → D1 K = D K) ∧ ∀ Q, (wp 73 0 [.inr (.inl 8), .inl a, .inl b, .inr (.inl 0)] [] (hp S D) Q ↔ Q (some (.inl (o136 F a b).1)) (hp S D1)) := by
  have t8 : tg 8 = 7 := rfl
  have t9 : tg 9 = 0 := rfl
  have t11 : tg 11 = 100 := rfl
  unfold o136
  by_cases h1 : 0 ≤ a ∧ a ≤ 2
  · rw [if_pos h1]
    have bs := stk_b hW.1.1 h1.1 h1.2
    have e3 : rat S D 11 a = F (41 + a).toNat := ((rat_b t9).2 h1.1 (by omega)).trans ((hC.1.2.2.1 _ (by omega)).trans (congrArg F (by omega)))
    by_cases h2 : 1 ≤ b ∧ b ≤ 6
    · rw [if_pos h2]
      by_cases h3 : 99 < F (41 + a).toNat + b
      · rw [if_pos h3]
        have h3' : ¬ F (41 + a).toNat + b ≤ 99 := by omega
        refine ⟨D, hC, fun _ _ => rfl, fun Q => ?_⟩
        simp (disch := first | assumption | omega | decide | exact b2i_01 _ | (unfold lx; omega)) only [s73_0, s73_1, s73_4, s73_7, s73_8, s73_11, s73_14, s73_16, s73_17, s73_18, s73_21, s73_24, s73_25, s73_28, s73_29, s73_30, s73_31, s73_32, s73_34, s73_37, s73_39, s73_40, s73_41, s73_44, s73_45, s73_48, s73_51, s73_52, s73_55, s73_58, s73_59, s73_60, s73_63, s73_64, kont_some, kont_none, w32_of, if_true, if_false, tdv, tmd, setA_eq, up_setA, rd_hi, Int.reduceToNat, if_neg (show ¬ (1 : Int) = 0 by decide), Nat.reduceAdd, c95, b2i_t h1, c96, b2i_t h2, c51, e3, if_pos h3]
      · rw [if_neg h3]
        obtain ⟨D1, i1, i2, i3⟩ := cRec (S := S) hS hC hW
        have ew : ∀ v, rwr S D1 11 a v = up D1 11 a.toNat v := fun v => if_pos ⟨h1.1, by have : ln S 11 = 3 := rfl; omega⟩
        refine ⟨up D1 11 a.toNat (F (41 + a).toNat + b), ?_, fun K hK => ?_, fun Q => ?_⟩
        · refine CW_b (E := up D1 11 a.toNat (F (41 + a).toNat + b)) i1 (Rel_ss i1.1 hW.1.1 (fun K k1 k2 => by funext j; exact up_ne1 (by omega)) (fun j hj => fu_ne (by omega)) (fun i hi => ?_) (fun i hi => ?_)) (fun K hK => by funext j; exact up_ne1 (by omega))
          · rw [up_ne1 (by omega), fu_ne (by omega)]; exact i1.1.2.1 i hi
          · by_cases q : i = a.toNat
            · rw [q, up_eq, show 41 + a.toNat = (41 + a).toNat by omega, fu_eq]
            · rw [up_ne2 q, fu_ne (by omega)]; exact i1.1.2.2.1 i hi
        · rw [← i2 K (by omega)]; funext j; exact up_ne1 (by omega)
        · simp (disch := first | assumption | omega | decide | exact b2i_01 _ | (unfold lx; omega)) only [s73_0, s73_1, s73_4, s73_7, s73_8, s73_11, s73_14, s73_16, s73_17, s73_18, s73_21, s73_24, s73_25, s73_28, s73_29, s73_30, s73_31, s73_32, s73_34, s73_37, s73_39, s73_40, s73_41, s73_44, s73_45, s73_48, s73_51, s73_52, s73_55, s73_58, s73_59, s73_60, s73_63, s73_64, kont_some, kont_none, w32_of, if_true, if_false, tdv, tmd, setA_eq, up_setA, rd_hi, Int.reduceToNat, if_neg (show ¬ (1 : Int) = 0 by decide), Nat.reduceAdd, c95, b2i_t h1, c96, b2i_t h2, c51, e3, if_neg h3, i3, c52, ew]
    · rw [if_neg h2]
      refine ⟨D, hC, fun _ _ => rfl, fun Q => ?_⟩
      simp (disch := first | assumption | omega | decide | exact b2i_01 _ | (unfold lx; omega)) only [s73_0, s73_1, s73_4, s73_7, s73_8, s73_11, s73_14, s73_16, s73_17, s73_18, s73_21, s73_24, s73_25, s73_28, s73_29, s73_30, s73_31, s73_32, s73_34, s73_37, s73_39, s73_40, s73_41, s73_44, s73_45, s73_48, s73_51, s73_52, s73_55, s73_58, s73_59, s73_60, s73_63, s73_64, kont_some, kont_none, w32_of, if_true, if_false, tdv, tmd, setA_eq, up_setA, rd_hi, Int.reduceToNat, if_neg (show ¬ (1 : Int) = 0 by decide), Nat.reduceAdd, c95, b2i_t h1, c96, b2i_f h2]
  · rw [if_neg h1]
    refine ⟨D, hC, fun _ _ => rfl, fun Q => ?_⟩
    simp (disch := first | assumption | omega | decide | exact b2i_01 _ | (unfold lx; omega)) only [s73_0, s73_1, s73_4, s73_7, s73_8, s73_11, s73_14, s73_16, s73_17, s73_18, s73_21, s73_24, s73_25, s73_28, s73_29, s73_30, s73_31, s73_32, s73_34, s73_37, s73_39, s73_40, s73_41, s73_44, s73_45, s73_48, s73_51, s73_52, s73_55, s73_58, s73_59, s73_60, s73_63, s73_64, kont_some, kont_none, w32_of, if_true, if_false, tdv, tmd, setA_eq, up_setA, rd_hi, Int.reduceToNat, if_neg (show ¬ (1 : Int) = 0 by decide), Nat.reduceAdd, c95, b2i_f h1]
theorem s_stock (hS : S.length ≤ 2048) (hW : Wd D) : Sa S D 73 [.inr (.inl 8), .inl a, .inl b, .inr (.inl 0)] (o136 (D 159) a b) := by
  refine act_stp hW (c73 hS hW.1 hW.2) (fun G hG => ?_)
  · unfold o136 at hG
    split at hG
    · next h1 =>
      split at hG
      · next h2 =>
        split at hG
        · cases hG
        · next h3 =>
          cases hG
          have bs := stk_b hW.2.1.1 h1.1 h1.2
          exact Sok_of hW.2.1 (St_stk hW.2.1.1 h1.1 h1.2 (by omega)) (fun j hj => fu_ne (by omega))
      · cases hG
    · cases hG
end SPEC70
