/-! the acts of both: set, setNight -/
def o130 (F : eRow) (w v : Int) : Int × Option eRow :=
  if 0 ≤ w ∧ w ≤ 3 then (if loS w ≤ v ∧ v ≤ hiS w then (if F (3 + w).toNat = v then (-5, none) else (F (3 + w).toNat, some (fu F (3 + w).toNat v))) else (-2, none)) else (-1, none)
theorem m130_o {D : eD} {w v : Int} : m130 D w v = ((o130 (D 159) w v).1, mAf D (o130 (D 159) w v).2) := by
  unfold m130 o130
  repeat' split
  all_goals rfl
def o131 (F : eRow) (a b : Int) : Int × Option eRow :=
  if 0 ≤ a ∧ a ≤ 47 then (if 0 ≤ b ∧ b ≤ 47 then (if a = b then (-2, none) else if F 1 = a ∧ F 2 = b then (-5, none) else ((b - a + 48) % 48, some (fu (fu F 1 a) 2 b))) else (-2, none)) else (-2, none)
theorem m131_o {D : eD} {w v : Int} : m131 D w v = ((o131 (D 159) w v).1, mAf D (o131 (D 159) w v).2) := by
  unfold m131 o131
  repeat' split
  all_goals rfl
theorem rat_lo {S : List Int} {D : eD} {w : Int} (h0 : 0 ≤ w) (h3 : w ≤ 3) : rat S D 5 w = loS w ∧ rat S D 6 w = hiS w := by
  rcases (show w = 0 ∨ w = 1 ∨ w = 2 ∨ w = 3 by omega) with rfl | rfl | rfl | rfl <;> exact ⟨rfl, rfl⟩
/-- one of the state's first numbers is set: settings and the night -/
theorem Sok_set {F G : eRow} (h : Sok F) (e : ∀ j, j = 0 ∨ 6 < j → G j = F j) (h1 : 0 ≤ G 1 ∧ G 1 ≤ 47) (h2 : 0 ≤ G 2 ∧ G 2 ≤ 47) (h3 : 75 ≤ G 3 ∧ G 3 ≤ 99) (h4 : 1 ≤ G 4 ∧ G 4 ≤ 5) (h5 : 1 ≤ G 5 ∧ G 5 ≤ 5) (h6 : 0 ≤ G 6 ∧ G 6 ≤ 1) : Sok G := by
  obtain ⟨hs, hc, ho, h0⟩ := h
  refine ⟨?_, ?_, ⟨?_, Srt_of ho.2 (St_b hs).1 (fun j _ _ => e j (by omega))⟩, ?_⟩
  · obtain ⟨a0, a1, a2, a3, a4, a5, a6, a7, a8, a9, a10, a11, a12, a13, a14, a15, a16, a17, a18, a19, a20, a21⟩ := hs
    refine ⟨fun s g1 g2 => LmB_of (a0 s g1 g2) (fun j _ _ => e j (by omega)) g1 g2, ?_, h1, h2, h3, h4, h5, h6, ?_, ?_, ?_, ?_, ?_, ?_, ?_, ?_, ?_, ?_, ?_, ?_, ?_, ?_⟩
    · rw [e 0 (by omega)]; exact a1
    · rw [e 7 (by omega)]; exact a8
    · rw [e 8 (by omega), e 9 (by omega)]; exact a9
    · rw [e 10 (by omega)]; exact a10
    · rw [e 41 (by omega)]; exact a11
    · rw [e 42 (by omega)]; exact a12
    · rw [e 43 (by omega)]; exact a13
    · rw [e 44 (by omega)]; exact a14
    · rw [e 45 (by omega)]; exact a15
    · rw [e 46 (by omega)]; exact a16
    · rw [e 47 (by omega)]; exact a17
    · rw [e 48 (by omega)]; exact a18
    · rw [e 49 (by omega)]; exact a19
    · rw [e 80 (by omega)]; exact a20
    · rw [e 49 (by omega)]
      exact fun k g1 g2 => Bt_of (a21 k g1 g2) (fun j h3 h4 => e j (by omega)) g1 (by omega)
  · unfold Ct at hc ⊢
    rw [e 0 (by omega), e 44 (by omega), e 45 (by omega), e 46 (by omega), e 47 (by omega), e 48 (by omega)]
    exact hc
  · rw [e 45 (by omega), e 46 (by omega)]; exact ho.1
  · rw [e 0 (by omega)]; exact h0
section SPEC69
variable {S : List Int} {D E : eD} {h : eH} {Q : Option eV → eH → Prop} {F G P T X : eRow} {n k len w v : Int}
theorem c68 (hS : S.length ≤ 2048) (hC : CW D F P T X n k len) (hW : RW F P T X n k len) :
    ∃ D1 : eD, Af D1 F P T X n k len (o130 F w v).2 ∧ (∀ K, 158 ≤ K → D1 K = D K) ∧ ∀ Q, (wp 68 0 [.inr (.inl 8), .inl w, .inl v, .inr (.inl 0)] [] (hp S D) Q ↔ Q (some (.inl (o130 F w v).1)) (hp S D1)) := by
  have t8 : tg 8 = 7 := rfl
  have t9 : tg 9 = 0 := rfl
  have t10 : tg 10 = 100 := rfl
  have t5 : tg 5 = 100 := rfl
  have t6 : tg 6 = 100 := rfl
  unfold o130
  by_cases h1 : 0 ≤ w ∧ w ≤ 3
  · rw [if_pos h1]
    obtain ⟨e5, e6⟩ := rat_lo (S := S) (D := D) h1.1 h1.2
    have e3 : rat S D 10 w = F (3 + w).toNat := ((rat_b t9).1 h1.1 (by omega)).trans ((hC.1.2.1 _ (by omega)).trans (congrArg F (by omega)))
    by_cases h2 : loS w ≤ v ∧ v ≤ hiS w
    · rw [if_pos h2]
      by_cases h3 : F (3 + w).toNat = v
      · rw [if_pos h3]
        refine ⟨D, hC, fun _ _ => rfl, fun Q => ?_⟩
        simp (disch := first | assumption | omega | decide | exact b2i_01 _ | (unfold lx; omega)) only [s68_0, s68_1, s68_4, s68_7, s68_8, s68_9, s68_10, s68_13, s68_14, s68_17, s68_20, s68_21, s68_24, s68_27, s68_30, s68_32, s68_33, s68_34, s68_37, s68_40, s68_41, s68_44, s68_45, s68_46, s68_47, s68_50, s68_52, s68_53, s68_54, s68_57, s68_58, s68_61, s68_64, s68_65, s68_68, s68_71, s68_72, s68_73, s68_76, s68_77, kont_some, kont_none, w32_of, if_true, if_false, tdv, tmd, setA_eq, up_setA, rd_hi, Int.reduceToNat, if_neg (show ¬ (1 : Int) = 0 by decide), Nat.reduceAdd, c92, b2i_t h1, c51, e5, e6, c91, b2i_t h2, e3, if_pos h3]
      · rw [if_neg h3]
        obtain ⟨D1, i1, i2, i3⟩ := cRec (S := S) hS hC hW
        have ew : rwr S D1 10 w v = up D1 10 w.toNat v := if_pos ⟨h1.1, by have : ln S 10 = 4 := rfl; omega⟩
        refine ⟨up D1 10 w.toNat v, ?_, fun K hK => ?_, fun Q => ?_⟩
        · refine CW_b (E := up D1 10 w.toNat v) i1 (Rel_ss i1.1 hW.1.1 (fun K k1 k2 => by funext j; exact up_ne1 (by omega)) (fun j hj => fu_ne (by omega)) (fun i hi => ?_) (fun i hi => ?_)) (fun K hK => by funext j; exact up_ne1 (by omega))
          · by_cases q : i = w.toNat
            · rw [q, up_eq, show 3 + w.toNat = (3 + w).toNat by omega, fu_eq]
            · rw [up_ne2 q, fu_ne (by omega)]; exact i1.1.2.1 i hi
          · rw [up_ne1 (by omega), fu_ne (by omega)]; exact i1.1.2.2.1 i hi
        · rw [← i2 K (by omega)]; funext j; exact up_ne1 (by omega)
        · simp (disch := first | assumption | omega | decide | exact b2i_01 _ | (unfold lx; omega)) only [s68_0, s68_1, s68_4, s68_7, s68_8, s68_9, s68_10, s68_13, s68_14, s68_17, s68_20, s68_21, s68_24, s68_27, s68_30, s68_32, s68_33, s68_34, s68_37, s68_40, s68_41, s68_44, s68_45, s68_46, s68_47, s68_50, s68_52, s68_53, s68_54, s68_57, s68_58, s68_61, s68_64, s68_65, s68_68, s68_71, s68_72, s68_73, s68_76, s68_77, kont_some, kont_none, w32_of, if_true, if_false, tdv, tmd, setA_eq, up_setA, rd_hi, Int.reduceToNat, if_neg (show ¬ (1 : Int) = 0 by decide), Nat.reduceAdd, c92, b2i_t h1, c51, e5, e6, c91, b2i_t h2, e3, if_neg h3, i3, c52, ew]
    · rw [if_neg h2]
      refine ⟨D, hC, fun _ _ => rfl, fun Q => ?_⟩
      simp (disch := first | assumption | omega | decide | exact b2i_01 _ | (unfold lx; omega)) only [s68_0, s68_1, s68_4, s68_7, s68_8, s68_9, s68_10, s68_13, s68_14, s68_17, s68_20, s68_21, s68_24, s68_27, s68_30, s68_32, s68_33, s68_34, s68_37, s68_40, s68_41, s68_44, s68_45, s68_46, s68_47, s68_50, s68_52, s68_53, s68_54, s68_57, s68_58, s68_61, s68_64, s68_65, s68_68, s68_71, s68_72, s68_73, s68_76, s68_77, kont_some, kont_none, w32_of, if_true, if_false, tdv, tmd, setA_eq, up_setA, rd_hi, Int.reduceToNat, if_neg (show ¬ (1 : Int) = 0 by decide), Nat.reduceAdd, c92, b2i_t h1, c51, e5, e6, c91, b2i_f h2]
  · rw [if_neg h1]
    refine ⟨D, hC, fun _ _ => rfl, fun Q => ?_⟩
    simp (disch := first | assumption | omega | decide | exact b2i_01 _ | (unfold lx; omega)) only [s68_0, s68_1, s68_4, s68_7, s68_8, s68_9, s68_10, s68_13, s68_14, s68_17, s68_20, s68_21, s68_24, s68_27, s68_30, s68_32, s68_33, s68_34, s68_37, s68_40, s68_41, s68_44, s68_45, s68_46, s68_47, s68_50, s68_52, s68_53, s68_54, s68_57, s68_58, s68_61, s68_64, s68_65, s68_68, s68_71, s68_72, s68_73, s68_76, s68_77, kont_some, kont_none, w32_of, if_true, if_false, tdv, tmd, setA_eq, up_setA, rd_hi, Int.reduceToNat, if_neg (show ¬ (1 : Int) = 0 by decide), Nat.reduceAdd, c92, b2i_f h1]
theorem s_set (hS : S.length ≤ 2048) (hW : Wd D) : Sa S D 68 [.inr (.inl 8), .inl w, .inl v, .inr (.inl 0)] (o130 (D 159) w v) := by
  refine act_stp hW (c68 hS hW.1 hW.2) (fun G hG => ?_)
  · obtain ⟨hs, hc, ho, h0⟩ := hW.2.1
    unfold o130 at hG
    split at hG
    · next h1 =>
      split at hG
      · next h2 =>
        split at hG
        · cases hG
        · cases hG
          obtain ⟨a0, a1, a2, a3, a4, a5, a6, a7, _⟩ := hs
          refine Sok_set hW.2.1 (fun j hj => fu_ne (by omega)) (by rw [fu_ne (by omega)]; exact a2) (by rw [fu_ne (by omega)]; exact a3) ?_ ?_ ?_ ?_
          all_goals
            unfold fu
            unfold loS hiS at h2
            rcases (show w = 0 ∨ w = 1 ∨ w = 2 ∨ w = 3 by omega) with rfl | rfl | rfl | rfl <;> simp at h2 ⊢ <;> omega
      · cases hG
    · cases hG
theorem c69 (hS : S.length ≤ 2048) (hC : CW D F P T X n k len) (hW : RW F P T X n k len) :
    ∃ D1 : eD, Af D1 F P T X n k len (o131 F w v).2 ∧ (∀ K, 158 ≤ K → D1 K = D K) ∧ ∀ Q, (wp 69 0 [.inr (.inl 8), .inl w, .inl v] [] (hp S D) Q ↔ Q (some (.inl (o131 F w v).1)) (hp S D1)) := by
  have t8 : tg 8 = 7 := rfl
  have t9 : tg 9 = 0 := rfl
  obtain ⟨y1, y2, y3, y4, y5, y6, y7, y8⟩ := hC.1.1
  unfold o131
  by_cases h1 : 0 ≤ w ∧ w ≤ 47
  · rw [if_pos h1]
    by_cases h2 : 0 ≤ v ∧ v ≤ 47
    · rw [if_pos h2]
      by_cases h3 : w = v
      · rw [if_pos h3]
        refine ⟨D, hC, fun _ _ => rfl, fun Q => ?_⟩
        simp (disch := first | assumption | omega | decide | exact b2i_01 _ | (unfold lx; omega)) only [s69_0, s69_1, s69_4, s69_7, s69_8, s69_11, s69_14, s69_15, s69_16, s69_19, s69_21, s69_22, s69_23, s69_26, s69_29, s69_30, s69_33, s69_34, s69_37, s69_40, s69_41, s69_44, s69_46, s69_47, s69_48, s69_51, s69_52, s69_55, s69_58, s69_59, s69_62, s69_63, s69_66, s69_67, s69_70, s69_71, s69_74, s69_75, s69_78, s69_81, kont_some, kont_none, w32_of, if_true, if_false, tdv, tmd, setA_eq, up_setA, rd_hi, Int.reduceToNat, if_neg (show ¬ (1 : Int) = 0 by decide), Nat.reduceAdd, c93, b2i_t h1, b2i_t h2, if_pos h3]
      · rw [if_neg h3]
        by_cases h4 : F 1 = w ∧ F 2 = v
        · rw [if_pos h4]
          refine ⟨D, hC, fun _ _ => rfl, fun Q => ?_⟩
          simp (disch := first | assumption | omega | decide | exact b2i_01 _ | (unfold lx; omega)) only [s69_0, s69_1, s69_4, s69_7, s69_8, s69_11, s69_14, s69_15, s69_16, s69_19, s69_21, s69_22, s69_23, s69_26, s69_29, s69_30, s69_33, s69_34, s69_37, s69_40, s69_41, s69_44, s69_46, s69_47, s69_48, s69_51, s69_52, s69_55, s69_58, s69_59, s69_62, s69_63, s69_66, s69_67, s69_70, s69_71, s69_74, s69_75, s69_78, s69_81, kont_some, kont_none, w32_of, if_true, if_false, tdv, tmd, setA_eq, up_setA, rd_hi, Int.reduceToNat, if_neg (show ¬ (1 : Int) = 0 by decide), Nat.reduceAdd, c93, b2i_t h1, b2i_t h2, if_neg h3, y2, y3, if_pos h4.1, if_pos h4.2]
        · rw [if_neg h4]
          obtain ⟨D1, i1, i2, i3⟩ := cRec (S := S) hS hC hW
          have c2' := fun Q' => c2 (S := S) (D := up (up D1 9 6 w) 9 7 v) (Q := Q') t9 (by rw [up_ne2 (by decide), up_eq]; omega) (by rw [up_ne2 (by decide), up_eq]; omega) (by rw [up_eq]; omega) (by rw [up_eq]; omega)
          rw [up_eq, up_ne2 (by decide), up_eq] at c2'
          rw [show (v - w + 48) % 48 = (v - w) % 48 by omega]
          refine ⟨up (up D1 9 6 w) 9 7 v, ?_, fun K hK => ?_, fun Q => ?_⟩
          · refine CW_b (E := up (up D1 9 6 w) 9 7 v) i1 (Rel_sc i1.1 hW.1.1 (fun K hK => by funext j; rw [up_ne1 hK, up_ne1 hK]) (fun j hj => by rw [fu_ne (by omega), fu_ne (by omega)]) ?_) (fun K hK => by funext j; rw [up_ne1 (by omega), up_ne1 (by omega)])
            obtain ⟨z1, z2, z3, z4, z5, z6, z7, z8⟩ := i1.1.1
            simp (disch := first | assumption | omega | decide | exact b2i_01 _) only [up_eq, up_ne2, fu_eq, fu_ne]
            exact ⟨z1, trivial, trivial, z4, z5, z6, z7, z8⟩
          · rw [← i2 K (by omega)]; funext j; rw [up_ne1 (by omega), up_ne1 (by omega)]
          · by_cases h5 : F 1 = w
            · have h6 : ¬ F 2 = v := fun z => h4 ⟨h5, z⟩
              simp (disch := first | assumption | omega | decide | exact b2i_01 _ | (unfold lx; omega)) only [s69_0, s69_1, s69_4, s69_7, s69_8, s69_11, s69_14, s69_15, s69_16, s69_19, s69_21, s69_22, s69_23, s69_26, s69_29, s69_30, s69_33, s69_34, s69_37, s69_40, s69_41, s69_44, s69_46, s69_47, s69_48, s69_51, s69_52, s69_55, s69_58, s69_59, s69_62, s69_63, s69_66, s69_67, s69_70, s69_71, s69_74, s69_75, s69_78, s69_81, kont_some, kont_none, w32_of, if_true, if_false, tdv, tmd, setA_eq, up_setA, rd_hi, Int.reduceToNat, if_neg (show ¬ (1 : Int) = 0 by decide), Nat.reduceAdd, c93, b2i_t h1, b2i_t h2, if_neg h3, y2, y3, if_pos h5, if_neg h6, i3, c2']
            · simp (disch := first | assumption | omega | decide | exact b2i_01 _ | (unfold lx; omega)) only [s69_0, s69_1, s69_4, s69_7, s69_8, s69_11, s69_14, s69_15, s69_16, s69_19, s69_21, s69_22, s69_23, s69_26, s69_29, s69_30, s69_33, s69_34, s69_37, s69_40, s69_41, s69_44, s69_46, s69_47, s69_48, s69_51, s69_52, s69_55, s69_58, s69_59, s69_62, s69_63, s69_66, s69_67, s69_70, s69_71, s69_74, s69_75, s69_78, s69_81, kont_some, kont_none, w32_of, if_true, if_false, tdv, tmd, setA_eq, up_setA, rd_hi, Int.reduceToNat, if_neg (show ¬ (1 : Int) = 0 by decide), Nat.reduceAdd, c93, b2i_t h1, b2i_t h2, if_neg h3, y2, y3, if_neg h5, i3, c2']
    · rw [if_neg h2]
      refine ⟨D, hC, fun _ _ => rfl, fun Q => ?_⟩
      simp (disch := first | assumption | omega | decide | exact b2i_01 _ | (unfold lx; omega)) only [s69_0, s69_1, s69_4, s69_7, s69_8, s69_11, s69_14, s69_15, s69_16, s69_19, s69_21, s69_22, s69_23, s69_26, s69_29, s69_30, s69_33, s69_34, s69_37, s69_40, s69_41, s69_44, s69_46, s69_47, s69_48, s69_51, s69_52, s69_55, s69_58, s69_59, s69_62, s69_63, s69_66, s69_67, s69_70, s69_71, s69_74, s69_75, s69_78, s69_81, kont_some, kont_none, w32_of, if_true, if_false, tdv, tmd, setA_eq, up_setA, rd_hi, Int.reduceToNat, if_neg (show ¬ (1 : Int) = 0 by decide), Nat.reduceAdd, c93, b2i_t h1, b2i_f h2]
  · rw [if_neg h1]
    refine ⟨D, hC, fun _ _ => rfl, fun Q => ?_⟩
    simp (disch := first | assumption | omega | decide | exact b2i_01 _ | (unfold lx; omega)) only [s69_0, s69_1, s69_4, s69_7, s69_8, s69_11, s69_14, s69_15, s69_16, s69_19, s69_21, s69_22, s69_23, s69_26, s69_29, s69_30, s69_33, s69_34, s69_37, s69_40, s69_41, s69_44, s69_46, s69_47, s69_48, s69_51, s69_52, s69_55, s69_58, s69_59, s69_62, s69_63, s69_66, s69_67, s69_70, s69_71, s69_74, s69_75, s69_78, s69_81, kont_some, kont_none, w32_of, if_true, if_false, tdv, tmd, setA_eq, up_setA, rd_hi, Int.reduceToNat, if_neg (show ¬ (1 : Int) = 0 by decide), Nat.reduceAdd, c93, b2i_f h1]
theorem s_setNight (hS : S.length ≤ 2048) (hW : Wd D) : Sa S D 69 [.inr (.inl 8), .inl w, .inl v] (o131 (D 159) w v) := by
  refine act_stp hW (c69 hS hW.1 hW.2) (fun G hG => ?_)
  · obtain ⟨hs, hc, ho, h0⟩ := hW.2.1
    unfold o131 at hG
    split at hG
    · next h1 =>
      split at hG
      · next h2 =>
        split at hG
        · cases hG
        · split at hG
          · cases hG
          · cases hG
            obtain ⟨a0, a1, a2, a3, a4, a5, a6, a7, _⟩ := hs
            refine Sok_set hW.2.1 (fun j hj => by rw [fu_ne (by omega), fu_ne (by omega)]) (by rw [fu_ne (by decide), fu_eq]; exact h1) (by rw [fu_eq]; exact h2) ?_ ?_ ?_ ?_
            · rw [fu_ne (by decide), fu_ne (by decide)]; exact a4
            · rw [fu_ne (by decide), fu_ne (by decide)]; exact a5
            · rw [fu_ne (by decide), fu_ne (by decide)]; exact a6
            · rw [fu_ne (by decide), fu_ne (by decide)]; exact a7
      · cases hG
    · cases hG
end SPEC69
