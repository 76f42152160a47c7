/-! readPlan, both -/
theorem nl_cg {E E' : eD} (h8 : E' 158 = E 158) (h3 : E' 163 = E 163) (n : Nat) : ∀ v p, nlF E' n v p = nlF E n v p := by
  induction n with
  | zero => exact fun _ _ => rfl
  | succ n ih =>
    intro v p
    unfold nlF seeF
    rw [h8, h3, ih]
theorem rb_cg {E E' : eD} (h8 : E' 158 = E 158) (h3 : E' 163 = E 163) (p : Int) : rbF E' p = rbF E p := by
  have e : ∀ q, nuF E' q = nuF E q := fun q => by
    unfold nuF seeF
    rw [h8, h3, nl_cg h8 h3]
  unfold rbF seeF
  rw [h8, h3, e]
theorem tx_cg {E E' : eD} (h8 : E' 158 = E 158) (h3 : E' 163 = E 163) (n : Nat) : ∀ p m R, txF E' n p m R = txF E n p m R := by
  induction n with
  | zero => exact fun _ _ _ => rfl
  | succ n ih =>
    intro p m R
    unfold txF seeF
    rw [h8, h3, rb_cg h8 h3, ih]
def o151 (E : eD) (F R : eRow) : Int × Option eRow :=
  if (txF E 11 0 0 R).1 = 0 then (-100 - (txF E 11 0 0 R).2.1, none)
  else (plsF (txF E 11 0 0 R).2.2.2 (txF E 11 0 0 R).2.2.1.toNat 0 (fu F 49 0) 49, some (plsF (txF E 11 0 0 R).2.2.2 (txF E 11 0 0 R).2.2.1.toNat 0 (fu F 49 0)))
theorem m151_o {D : eD} : m151 D = ((o151 D (D 159) (D 164)).1, mAf (txD D (txF D 11 0 0 (D 164)).2.1 (txF D 11 0 0 (D 164)).2.2.1 (txF D 11 0 0 (D 164)).2.2.2) (o151 D (D 159) (D 164)).2) := by
  unfold m151 o151
  split <;> rfl
section SPEC79
variable {S : List Int} {D E : eD} {h : eH} {Q : Option eV → eH → Prop} {F P T X R : eRow} {n k len w v s t a b c : Int}
theorem c75 (hS : S.length ≤ 2048) (hC : CW D F P T X n k len) (hW : RW F P T X n k len) (hT : Tx E) (hX : TxC D E) :
    ∃ D1 : eD, Af D1 F P T X n k len (o151 E F R).2 ∧ (∀ K, 158 ≤ K → D1 K = D K) ∧ ∀ Q, (wp 75 0 [.inr 8, .inr 0] [] (hp S D) Q ↔ Q (some (.inl (o151 E F R).1)) (hp S D1)) := by
  have t8 : tg 8 = 7 := rfl
  have t9 : tg 9 = 0 := rfl
  have t21 : tg 21 = 4 := rfl
  have t152 : tg 152 = 5 := rfl
  have t154 : tg 154 = 4 := rfl
  have hF := hW.1.1
  obtain ⟨i1, i2, i3, i4, i5⟩ := tx_all hT 11 0 0 R (by omega) (by omega) (by omega) (by omega) (fun k h1 h2 => absurd h1 (by omega))
  obtain ⟨D1, j1, j2, j3, j4, j5⟩ := c45 (S := S) (D := D) hS hT hX (R := R) (G := fu F 49 0) fu_eq
  have hC1 : CW D1 F P T X n k len := by
    obtain ⟨h1, h2, h3, h4, h5⟩ := hC
    refine ⟨Rel_cg h1 (fun K _ _ => j3 K (by omega) (by omega)), HiR_cg h2 (fun K _ _ => j3 K (by omega) (by omega)), ⟨by rw [j3 8 (by omega) (by omega)]; exact h3.1, fun q => Rel_cg (h3.2 q) (fun K _ _ => j3 K (by omega) (by omega))⟩, ⟨j1.trans h4.1, fun i hi => by rw [j3 153 (by omega) (by omega)]; exact h4.2 i hi⟩, ?_⟩
    intro b hb
    have := tg0_cases b (tg_lt (by omega)) hb
    have y := h5 b hb
    unfold NoL at y ⊢
    rw [j3 _ (by omega) (by omega)]; exact y
  unfold o151
  generalize (txF E 11 0 0 R).2.1 = pos at *
  generalize (txF E 11 0 0 R).2.2.1 = m at *
  generalize (txF E 11 0 0 R).2.2.2 = R' at *
  by_cases h1 : (txF E 11 0 0 R).1 = 0
  · rw [if_pos h1]
    have j5' : ∀ Q, (wp 45 0 [.inr 152, .inr 154, .inr 0] [] (hp S D) Q ↔ Q (some (.inl pos)) (hp S D1)) := fun Q => by rw [j5 Q, if_pos h1]
    have np : ¬ pos = -1 := by omega
    refine ⟨D1, hC1, fun K hK => j3 K (by omega) (by omega), fun Q => ?_⟩
    simp (disch := first | assumption | omega | decide | exact b2i_01 _ | (unfold lx; omega)) only [s75_0, s75_1, s75_4, s75_5, s75_8, s75_11, s75_12, s75_13, s75_14, s75_17, s75_19, s75_20, s75_21, s75_22, s75_23, s75_26, s75_29, s75_32, s75_34, s75_35, s75_36, s75_39, s75_40, s75_43, s75_46, s75_47, s75_50, s75_53, s75_54, s75_57, s75_60, s75_61, s75_64, s75_67, s75_70, kont_some, kont_none, w32_of, if_true, if_false, tdv, tmd, setA_eq, up_setA, rd_hi, Int.reduceToNat, if_neg (show ¬ (1 : Int) = 0 by decide), Nat.reduceAdd, j5', if_neg np]
  · rw [if_neg h1]
    have j5' : ∀ Q, (wp 45 0 [.inr 152, .inr 154, .inr 0] [] (hp S D) Q ↔ Q (some (.inl (-1))) (hp S D1)) := fun Q => by rw [j5 Q, if_neg h1]
    have hPG := (j4.resolve_left h1).1
    have b49 := hF.2.2.2.2.2.2.2.2.2.2.2.2.2.2.2.2.2.2.2.1
    have hall := pls_all (R := R') (m := m) i5 i4 m.toNat 0 (fu F 49 0) (by omega) (by omega) (St_49 hF) (by rw [fu_eq]; omega)
    generalize plsF R' m.toNat 0 (fu F 49 0) = G at *
    obtain ⟨D2, k1, k2, k3⟩ := cRec (S := S) hS hC1 hW
    have c36' := fun Q' => c36 (S := S) (D := D2) (Q := Q') t21 t154 hS (by omega)
    have hP2 : PlR D2 154 G := PlR_cg hPG (fun K _ _ => k2 K (by omega))
    have hP3 := PlR_cp (q := 21) hP2
    have ef := (cpP_at (D := D2) (q := 21) (o := 154)).2.2.2.2
    have e49 : cpP D2 21 154 21 3 = G 49 := hP3.1
    refine ⟨cpP D2 21 154, CW_b k1 (Rel_pl k1.1 hF hP3 (fun K hK => ef K (by omega)) (fun j hj => (hall.2.2 j hj).trans (fu_ne (by omega)))) (fun K hK => ef K (by omega)), fun K hK => (ef K (by omega)).trans ((k2 K (by omega)).trans (j3 K (by omega) (by omega))), fun Q => ?_⟩
    simp (disch := first | assumption | omega | decide | exact b2i_01 _ | (unfold lx; omega)) only [s75_0, s75_1, s75_4, s75_5, s75_8, s75_11, s75_12, s75_13, s75_14, s75_17, s75_19, s75_20, s75_21, s75_22, s75_23, s75_26, s75_29, s75_32, s75_34, s75_35, s75_36, s75_39, s75_40, s75_43, s75_46, s75_47, s75_50, s75_53, s75_54, s75_57, s75_60, s75_61, s75_64, s75_67, s75_70, kont_some, kont_none, w32_of, if_true, if_false, tdv, tmd, setA_eq, up_setA, rd_hi, Int.reduceToNat, if_neg (show ¬ (1 : Int) = 0 by decide), Nat.reduceAdd, j5', j2, k3, c36', e49]
theorem s_readPlan (hS : S.length ≤ 2048) (hW : Wd D) : Sp S D 75 [.inr 8, .inr 0] 151 [.inr 158, .inr 0] := by
  have hT : Tx D := ⟨hW.2.2.2.2.1.1, hW.2.2.2.2.1.2, hW.2.2.2.2.2⟩
  have hX : TxC D D := hW.1.2.2.2.1
  obtain ⟨D1, i1, i2, i3⟩ := c75 (S := S) (E := D) (R := D 164) hS hW.1 hW.2 hT hX
  have q8 := i2 158 (by omega)
  have q3 := i2 163 (by omega)
  have q9 := i2 159 (by omega)
  have q4 := i2 164 (by omega)
  have hm : ∀ Q, (wp 151 0 [.inr 158, .inr 0] [] (hp S D1) Q ↔ Q (some (.inl (o151 D (D 159) (D 164)).1)) (hp S (mAf (txD D1 (txF D 11 0 0 (D 164)).2.1 (txF D 11 0 0 (D 164)).2.2.1 (txF D 11 0 0 (D 164)).2.2.2) (o151 D (D 159) (D 164)).2))) := fun Q => by
    have z := c151 (S := S) (D := D1) (Q := Q) (by rw [q8]; exact hW.2.2.1.1) ⟨by rw [q8]; exact hT.1, by rw [q8]; exact hT.2.1, fun j => by rw [q3]; exact hT.2.2 j⟩ (by rw [q9]; exact hW.2.1.1)
    have eo : o151 D1 (D1 159) (D1 164) = o151 D (D 159) (D 164) := by
      unfold o151
      rw [q9, q4, tx_cg q8 q3]
    rw [m151_o, eo, q4, tx_cg q8 q3] at z
    exact z
  refine ⟨(o151 D (D 159) (D 164)).1, D1, _, W_mAf (F := D 159) (P := D 161) (T := D 162) (X := D 163) (n := D 158 3) (k := D 158 5) (len := D 158 7) ?_ hW.2 (fun G hG => ?_) ?_ ?_ ?_ ?_ ?_ ?_ ?_, i3, hm⟩
  · have e : ∀ K, K < 158 → txD D1 (txF D 11 0 0 (D 164)).2.1 (txF D 11 0 0 (D 164)).2.2.1 (txF D 11 0 0 (D 164)).2.2.2 K = D1 K := fun K hK => by
      unfold txD
      rw [setA_ne (by omega), setA_ne (by omega)]
    revert i1
    cases (o151 D (D 159) (D 164)).2 with
    | none => exact fun i1 => CW_cg (D := D1) i1 e
    | some G => exact fun i1 => CW_cg (D := D1) i1 e
  · have hF := hW.2.1.1
    obtain ⟨a1, a2, a3, a4, a5⟩ := tx_all hT 11 0 0 (D 164) (by omega) (by omega) (by omega) (by omega) (fun k h1 h2 => absurd h1 (by omega))
    have hall := pls_all (R := (txF D 11 0 0 (D 164)).2.2.2) (m := (txF D 11 0 0 (D 164)).2.2.1) a5 a4 (txF D 11 0 0 (D 164)).2.2.1.toNat 0 (fu (D 159) 49 0) (by omega) (by omega) (St_49 hF) (by rw [fu_eq]; omega)
    obtain ⟨D9, _, _, _, j4, _⟩ := c45 (S := S) (D := D) hS hT hX (R := D 164) (G := fu (D 159) 49 0) fu_eq
    unfold o151 at hG
    split at hG
    · cases hG
    · next h1 =>
      cases hG
      exact Sok_pl hW.2.1 hall.1 (j4.resolve_left h1).2 (fun j hj => (hall.2.2 j hj).trans (fu_ne (by omega)))
  · rw [tx_159, q9]
  · unfold txD; rw [setA_ne (by decide), setA_ne (by decide), i2 161 (by omega)]
  · unfold txD; rw [setA_ne (by decide), setA_ne (by decide), i2 162 (by omega)]
  · rw [tx_163, q3]
  · rw [tx_3, q8]
  · unfold txD; rw [setA_ne (by decide), setA_eq, fu_ne (by decide), fu_ne (by decide), q8]
  · rw [tx_7, q8]
end SPEC79
