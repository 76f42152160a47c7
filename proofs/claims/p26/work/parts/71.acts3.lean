/-! the acts of both: pass; texts; undo, keep, restore -/
theorem pas_44 {F : eRow} (hs : St F) (hc : Ct F) (h0b : F 0 ≤ 900000) : pasF F 1 44 = F 44 + b2i (pdk (pw1 F)) := by
  obtain ⟨d1, d2, d3, d4, d5⟩ := hc
  have s1 := St_pw1 hs
  have e47 : pw1 F 47 = F 47 := pw1_ne (by omega)
  have n2 : ∀ j, j < 7 ∨ (43 < j ∧ j < 47) ∨ (47 < j ∧ j < 80) → pl2 (pw1 F) j = F j := fun j hj => (pl2_ne s1 (by omega) (by omega)).trans (pw1_ne (by omega))
  have b49 : 0 ≤ F 49 := hs.2.2.2.2.2.2.2.2.2.2.2.2.2.2.2.2.2.2.2.1.1
  have f49 : pc1 (pl2 (pw1 F)) (pdk (pw1 F)) (nigF (pw1 F)) 49 = F 49 := (pc1_ne (by omega)).trans (n2 49 (by omega))
  have f48 : pc1 (pl2 (pw1 F)) (pdk (pw1 F)) (nigF (pw1 F)) 48 = F 48 := (pc1_ne (by omega)).trans (n2 48 (by omega))
  have bb := St_b hs
  have s2 := St_pl2 s1 (by omega)
  have s3 := St_pc1 (d := pdk (pw1 F)) (n := nigF (pw1 F)) s2.1 (by rw [n2 44 (by omega)]; omega) (by rw [n2 45 (by omega)]; omega)
  have hp2 := pb_all (F 49).toNat 0 (pc1 (pl2 (pw1 F)) (pdk (pw1 F)) (nigF (pw1 F))) (by omega) (by rw [f49]; omega) s3 (by omega)
  have e44 : pc1 (pl2 (pw1 F)) (pdk (pw1 F)) (nigF (pw1 F)) 44 = F 44 + b2i (pdk (pw1 F)) := by
    unfold pc1
    rw [fu_ne (by decide), fu_ne (by decide), fu_eq, n2 44 (by omega)]
  unfold pasF
  rw [fu_ne (by decide), if_neg (by decide), hp2.2.1 44 (by omega), e44]
theorem it_44 (n : Nat) : ∀ F : eRow, St F → Ct F → F 0 + n ≤ 900000 → itF 1 n F 44 = F 44 + drkF n F := by
  induction n with
  | zero => exact fun F _ _ _ => (Int.add_zero _).symm
  | succ n ih =>
    intro F hs hc h0
    have hp := pas_all (ab := 1) hs hc (by omega)
    show itF 1 n (pasF F 1) 44 = F 44 + (b2i (pdk (pw1 F)) + drkF n (pasF F 1))
    rw [ih _ hp.1 hp.2.1 (by rw [hp.2.2.1]; omega), pas_44 hs hc (by omega)]
    omega
theorem it_Od {ab : Int} (n : Nat) : ∀ F : eRow, St F → Ct F → Od F → F 0 + n ≤ 900000 → Od (itF ab n F) := by
  induction n with
  | zero => exact fun F _ _ h _ => h
  | succ n ih =>
    intro F hs hc ho h0
    have hp := pas_all (ab := ab) hs hc (by omega)
    exact ih _ hp.1 hp.2.1 (Od_pas hs hc ho (by omega)) (by rw [hp.2.2.1]; omega)
def o141 (F : eRow) (v : Int) : Int × Option eRow := if 1 ≤ v ∧ v ≤ 200 then (if 99999 < F 0 + v then (-3, none) else (drkF v.toNat F, some (itF 1 v.toNat F))) else (-2, none)
theorem m141_o {D : eD} {v : Int} : m141 D v = ((o141 (D 159) v).1, mAf D (o141 (D 159) v).2) := by
  unfold m141 o141
  repeat' split
  all_goals rfl
def o105 (F T : eRow) (k : Int) : Int × Option eRow := if k = 0 then (-5, none) else (T 0, some (cpA F T 0 0 111))
section SPEC71
variable {S : List Int} {D E : eD} {h : eH} {Q : Option eV → eH → Prop} {F G P T X : eRow} {n k len w v s a b : Int}
theorem c76a (hS : S.length ≤ 2048) {x : eV} (m : Nat) : ∀ (i : Int) (D : eD) (F : eRow), i + m = v → 0 ≤ i → v ≤ 200 → CW D F P T X n k len → St F → Ct F → Od F → F 0 + m ≤ 900000 →
    ∃ D1 : eD, CW D1 (itF 1 m F) P T X n k len ∧ (∀ K, 158 ≤ K → D1 K = D K) ∧ ∀ Q, (wp 76 52 [.inr (.inl 8), .inl v, x, .inl i] [] (hp S D) Q ↔ wp 76 72 [.inr (.inl 8), .inl v, x, .inl v] [] (hp S D1) Q) := by
  have t8 : tg 8 = 7 := rfl
  have t9 : tg 9 = 0 := rfl
  induction m with
  | zero =>
    intro i D F hi i0 hv hC hs hc ho h0
    refine ⟨D, hC, fun _ _ => rfl, fun Q => ?_⟩
    have h1 : ¬ i < v := by omega
    have h2 : i = v := by omega
    subst h2
    rw [s76_52]
    simp (disch := first | assumption | omega | decide | exact b2i_01 _ | (unfold lx; omega)) only [s76_53, s76_54, kont_some, kont_none, w32_of, if_true, if_false, tdv, tmd, setA_eq, up_setA, rd_hi, Int.reduceToNat, if_neg (show ¬ (1 : Int) = 0 by decide), if_neg h1]
  | succ m ih =>
    intro i D F hi i0 hv hC hs hc ho h0
    have h1 : i < v := by omega
    obtain ⟨D1, i1, i2, i3⟩ := c4 (S := S) (ab := 1) t9 hS hC.1 hs hc ho (by omega) (Or.inr rfl)
    have hp := pas_all (ab := 1) hs hc (by omega)
    obtain ⟨D2, j1, j2, j3⟩ := ih (i + 1) D1 (pasF F 1) (by omega) (by omega) hv (CW_b hC i1 i2) hp.1 hp.2.1 (Od_pas hs hc ho (by omega)) (by rw [hp.2.2.1]; omega)
    refine ⟨D2, j1, fun K hK => (j2 K hK).trans (i2 K (by omega)), fun Q => ?_⟩
    rw [← j3, s76_52]
    simp (disch := first | assumption | omega | decide | exact b2i_01 _ | (unfold lx; omega)) only [s76_53, s76_54, s76_57, s76_58, s76_61, s76_62, s76_65, s76_66, s76_69, kont_some, kont_none, w32_of, if_true, if_false, tdv, tmd, setA_eq, up_setA, rd_hi, Int.reduceToNat, if_neg (show ¬ (1 : Int) = 0 by decide), Nat.reduceAdd, if_pos h1, i3]
theorem c76 (hS : S.length ≤ 2048) (hC : CW D F P T X n k len) (hW : RW F P T X n k len) :
    ∃ D1 : eD, Af D1 F P T X n k len (o141 F v).2 ∧ (∀ K, 158 ≤ K → D1 K = D K) ∧ ∀ Q, (wp 76 0 [.inr (.inl 8), .inl v, .inr (.inl 0), .inr (.inl 0)] [] (hp S D) Q ↔ Q (some (.inl (o141 F v).1)) (hp S D1)) := by
  have t8 : tg 8 = 7 := rfl
  have t9 : tg 9 = 0 := rfl
  obtain ⟨hs, hc, ho, h0⟩ := hW.1
  have e5 : D 9 5 = F 0 := hC.1.1.1
  have f0 : 0 ≤ F 0 ∧ F 0 ≤ 1000000 := hs.2.1
  unfold o141
  by_cases h1 : 1 ≤ v ∧ v ≤ 200
  · rw [if_pos h1]
    by_cases h2 : 99999 < F 0 + v
    · rw [if_pos h2]
      have h2' : 99999 - F 0 < v := by omega
      refine ⟨D, hC, fun _ _ => rfl, fun Q => ?_⟩
      simp (disch := first | assumption | omega | decide | exact b2i_01 _ | (unfold lx; omega)) only [s76_0, s76_1, s76_2, s76_5, s76_8, s76_11, s76_13, s76_14, s76_15, s76_17, s76_18, s76_21, s76_24, s76_25, s76_28, s76_30, s76_31, s76_32, s76_35, s76_36, s76_39, s76_42, s76_43, s76_46, s76_49, s76_50, s76_51, s76_53, s76_54, s76_57, s76_58, s76_61, s76_62, s76_65, s76_66, s76_69, s76_72, s76_73, s76_76, s76_79, s76_80, s76_81, kont_some, kont_none, w32_of, if_true, if_false, tdv, tmd, setA_eq, up_setA, rd_hi, Int.reduceToNat, if_neg (show ¬ (1 : Int) = 0 by decide), Nat.reduceAdd, c91, b2i_t h1, e5, if_pos h2']
    · rw [if_neg h2]
      have h2' : ¬ 99999 - F 0 < v := by omega
      obtain ⟨D1, i1, i2, i3⟩ := cRec (S := S) hS hC hW
      obtain ⟨D2, j1, j2, j3⟩ := c76a (S := S) hS (v := v) (x := .inl (F 44)) v.toNat 0 D1 F (by omega) (by omega) h1.2 i1 hs hc ho (by omega)
      have e8 : D1 9 8 = F 44 := i1.1.1.2.2.2.1
      have e8' : D2 9 8 = F 44 + drkF v.toNat F := j1.1.1.2.2.2.1.trans (it_44 v.toNat F hs hc (by omega))
      have hd := drk_b v.toNat F
      have b44 : 0 ≤ F 44 ∧ F 44 ≤ 1000000 := hs.2.2.2.2.2.2.2.2.2.2.2.2.2.2.1
      have e : F 44 + drkF v.toNat F - F 44 = drkF v.toNat F := by omega
      refine ⟨D2, j1, fun K hK => (j2 K hK).trans (i2 K (by omega)), fun Q => ?_⟩
      have ea : wp 76 0 [.inr (.inl 8), .inl v, .inr (.inl 0), .inr (.inl 0)] [] (hp S D) Q ↔ wp 76 52 [.inr (.inl 8), .inl v, .inl (F 44), .inl 0] [] (hp S D1) Q := by
        simp (disch := first | assumption | omega | decide | exact b2i_01 _ | (unfold lx; omega)) only [s76_0, s76_1, s76_2, s76_5, s76_8, s76_11, s76_13, s76_14, s76_15, s76_17, s76_18, s76_21, s76_24, s76_25, s76_28, s76_30, s76_31, s76_32, s76_35, s76_36, s76_39, s76_42, s76_43, s76_46, s76_49, s76_50, s76_51, kont_some, kont_none, w32_of, if_true, if_false, tdv, tmd, setA_eq, up_setA, rd_hi, Int.reduceToNat, if_neg (show ¬ (1 : Int) = 0 by decide), Nat.reduceAdd, c91, b2i_t h1, e5, if_neg h2', i3, e8]
      rw [ea, j3]
      simp (disch := first | assumption | omega | decide | exact b2i_01 _ | (unfold lx; omega)) only [s76_72, s76_73, s76_76, s76_79, s76_80, s76_81, kont_some, kont_none, w32_of, if_true, if_false, tdv, tmd, setA_eq, up_setA, rd_hi, Int.reduceToNat, if_neg (show ¬ (1 : Int) = 0 by decide), Nat.reduceAdd, e8', e]
  · rw [if_neg h1]
    refine ⟨D, hC, fun _ _ => rfl, fun Q => ?_⟩
    simp (disch := first | assumption | omega | decide | exact b2i_01 _ | (unfold lx; omega)) only [s76_0, s76_1, s76_2, s76_5, s76_8, s76_11, s76_13, s76_14, s76_15, s76_17, s76_18, s76_21, s76_24, s76_25, s76_28, s76_30, s76_31, s76_32, s76_35, s76_36, s76_39, s76_42, s76_43, s76_46, s76_49, s76_50, s76_51, s76_53, s76_54, s76_57, s76_58, s76_61, s76_62, s76_65, s76_66, s76_69, s76_72, s76_73, s76_76, s76_79, s76_80, s76_81, kont_some, kont_none, w32_of, if_true, if_false, tdv, tmd, setA_eq, up_setA, rd_hi, Int.reduceToNat, if_neg (show ¬ (1 : Int) = 0 by decide), Nat.reduceAdd, c91, b2i_f h1]
theorem s_pass (hS : S.length ≤ 2048) (hW : Wd D) : Sa S D 76 [.inr (.inl 8), .inl v, .inr (.inl 0), .inr (.inl 0)] (o141 (D 159) v) := by
  refine act_stp hW (c76 hS hW.1 hW.2) (fun G hG => ?_)
  · obtain ⟨hs, hc, ho, h0⟩ := hW.2.1
    unfold o141 at hG
    split at hG
    · next h1 =>
      split at hG
      · cases hG
      · next h2 =>
        cases hG
        obtain ⟨a1, a2, a3⟩ := it_all (ab := 1) v.toNat (D 159) hs hc (by omega)
        exact ⟨a1, a2, it_Od v.toNat (D 159) hs hc ho (by omega), by rw [a3]; omega⟩
    · cases hG
theorem c81 (hS : S.length ≤ 2048) (hC : CW D F P T X n k len) (hW : RW F P T X n k len) :
    ∃ D1 : eD, Af D1 F P T X n k len (o105 F T k).2 ∧ (∀ K, 158 ≤ K → D1 K = D K) ∧ ∀ Q, (wp 81 0 [.inr (.inl 8)] [] (hp S D) Q ↔ Q (some (.inl (o105 F T k).1)) (hp S D1)) := by
  have t8 : tg 8 = 7 := rfl
  have t9 : tg 9 = 0 := rfl
  have t29 : tg 29 = 0 := rfl
  have ek := hC.2.2.1.1
  unfold o105
  by_cases h1 : k = 0
  · rw [if_pos h1]
    refine ⟨D, hC, fun _ _ => rfl, fun Q => ?_⟩
    simp (disch := first | assumption | omega | decide | exact b2i_01 _ | (unfold lx; omega)) only [s81_0, s81_1, s81_4, s81_7, s81_9, s81_10, s81_11, s81_14, s81_15, s81_18, s81_21, s81_22, s81_25, s81_26, s81_29, s81_32, s81_33, s81_36, s81_39, kont_some, kont_none, w32_of, if_true, if_false, tdv, tmd, setA_eq, up_setA, rd_hi, Int.reduceToNat, if_neg (show ¬ (1 : Int) = 0 by decide), Nat.reduceAdd, ek, h1]
  · rw [if_neg h1]
    have hk := hW.2.2.1.resolve_left h1
    obtain ⟨D1, i1, i2, i3⟩ := cRec (S := S) hS hC hW
    obtain ⟨D2, j1, j2, j3⟩ := c1 (S := S) t9 t29 hS (by omega) (i1.2.2.1.2 hk.1) hk.2.1 (i1.2.2.2.2 9 t9)
    have b := St_b hk.2.1
    have e5 : D2 9 5 = T 0 := j1.1.1
    refine ⟨D2, CW_b i1 (Rel_row j1 b.1 b.2 (fun j hj => cpA_at hj)) j2, fun K hK => (j2 K (by omega)).trans (i2 K (by omega)), fun Q => ?_⟩
    simp (disch := first | assumption | omega | decide | exact b2i_01 _ | (unfold lx; omega)) only [s81_0, s81_1, s81_4, s81_7, s81_9, s81_10, s81_11, s81_14, s81_15, s81_18, s81_21, s81_22, s81_25, s81_26, s81_29, s81_32, s81_33, s81_36, s81_39, kont_some, kont_none, w32_of, if_true, if_false, tdv, tmd, setA_eq, up_setA, rd_hi, Int.reduceToNat, if_neg (show ¬ (1 : Int) = 0 by decide), Nat.reduceAdd, ek, if_neg h1, i3, j3, e5]
theorem s_restore (hS : S.length ≤ 2048) (hW : Wd D) : Sa S D 81 [.inr (.inl 8)] (o105 (D 159) (D 162) (D 158 5)) := by
  refine act_stp hW (c81 hS hW.1 hW.2) (fun G hG => ?_)
  · unfold o105 at hG
    split at hG
    · cases hG
    · next h1 =>
      cases hG
      exact Sok_row (hW.2.2.2.1.resolve_left h1).2 (fun j hj => cpA_at hj)
theorem s_undo (hS : S.length ≤ 2048) (hW : Wd D) : ∃ D2 : eD, Wd D2 ∧ (∀ K, 158 ≤ K → D2 K = (if D 158 3 = 0 then D else undD D) K) ∧ ∀ Q, (wp 79 0 [.inr (.inl 8)] [] (hp S D) Q ↔ Q (some (.inl (if D 158 3 = 0 then -5 else D 158 3 - 1))) (hp S D2)) := by
  have t8 : tg 8 = 7 := rfl
  have t70 : tg 70 = 2 := rfl
  obtain ⟨⟨h1, h2, h3, h4, h5⟩, ⟨r1, ⟨r2, r3⟩, r4, r5⟩⟩ := hW
  have e1 := h2.1
  by_cases h0 : D 158 3 = 0
  · refine ⟨D, ⟨⟨h1, h2, h3, h4, h5⟩, ⟨r1, ⟨r2, r3⟩, r4, r5⟩⟩, fun K hK => by rw [if_pos h0], fun Q => ?_⟩
    · rw [if_pos h0]
      simp (disch := first | assumption | omega | decide | exact b2i_01 _ | (unfold lx; omega)) only [s79_0, s79_1, s79_4, s79_7, s79_10, s79_12, s79_13, s79_14, s79_17, s79_18, s79_21, s79_24, s79_25, s79_28, s79_31, kont_some, kont_none, w32_of, if_true, if_false, tdv, tmd, setA_eq, up_setA, rd_hi, Int.reduceToNat, if_neg (show ¬ (1 : Int) = 0 by decide), Nat.reduceAdd, e1, if_pos h0]
  · have sl := r3 (D 158 3 - 1) (by omega) (by omega)
    obtain ⟨D1, i1, i2, i3, i4, i5⟩ := c21 (S := S) hS h2 (by omega) sl.1 h5
    have e2 := i2.1
    have k8 : D1 158 = D 158 := i3 158 (by omega) (by omega)
    have k9 : D1 159 = D 159 := i3 159 (by omega) (by omega)
    have k1 : D1 161 = D 161 := i3 161 (by omega) (by omega)
    have k2 : D1 162 = D 162 := i3 162 (by omega) (by omega)
    have k3 : D1 163 = D 163 := i3 163 (by omega) (by omega)
    have q9 : undD D1 159 = cpA (D 159) (D 161) 0 (111 * (D 158 3 - 1)).toNat 111 := by unfold undD; rw [setA_eq, k9, k1, k8]
    have q8 : undD D1 158 = fu (D 158) 3 (D 158 3 - 1) := by unfold undD; rw [setA_ne (by decide), setA_eq, k8]
    have q1 : undD D1 161 = D 161 := by unfold undD; rw [setA_ne (by decide), setA_ne (by decide), k1]
    have q2 : undD D1 162 = D 162 := by unfold undD; rw [setA_ne (by decide), setA_ne (by decide), k2]
    have q3 : undD D1 163 = D 163 := by unfold undD; rw [setA_ne (by decide), setA_ne (by decide), k3]
    have er : ∀ j, j < 111 → cpA (D 159) (D 161) 0 (111 * (D 158 3 - 1)).toNat 111 j = slc (D 161) (D 158 3 - 1) j := fun j hj => by
      unfold cpA slc
      rw [if_pos (by omega)]
      exact congrArg _ (by omega)
    have b := St_b sl.1
    refine ⟨undD D1, ?_, fun K hK => ?_, fun Q => ?_⟩
    · unfold Wd
      rw [q9, q8, q1, q2, q3, fu_eq, fu_ne (by decide), fu_ne (by decide)]
      refine ⟨CW_cg (D := D1) ⟨Rel_row i1 b.1 b.2 er, i2, ⟨?_, fun q => ?_⟩, ⟨?_, fun i hi => ?_⟩, i4⟩ (fun K hK => ?_), ⟨Sok_row sl er, ⟨by omega, fun i i0 i1 => r3 i i0 (by omega)⟩, r4, r5⟩⟩
      · rw [i3 8 (by omega) (by omega)]; exact h3.1
      · exact Rel_cg (h3.2 q) (fun K _ _ => i3 K (by omega) (by omega))
      · rw [i3 152 (by omega) (by omega)]; exact h4.1
      · rw [i3 153 (by omega) (by omega)]; exact h4.2 i hi
      · unfold undD
        rw [setA_ne (by omega), setA_ne (by omega)]
    · rw [if_neg h0]
      unfold undD setA
      rw [k8, k9, k1]
      split
      · rfl
      · split
        · rfl
        · exact i3 K (by omega) (by omega)
    · have eh : hp S (undD D1) = hp S D1 := by
        refine hp_ext fun k j h => ?_
        have hk := h.2.1
        unfold undD
        rw [setA_ne (by omega), setA_ne (by omega)]
      rw [eh, if_neg h0]
      simp (disch := first | assumption | omega | decide | exact b2i_01 _ | (unfold lx; omega)) only [s79_0, s79_1, s79_4, s79_7, s79_10, s79_12, s79_13, s79_14, s79_17, s79_18, s79_21, s79_24, s79_25, s79_28, s79_31, kont_some, kont_none, w32_of, if_true, if_false, tdv, tmd, setA_eq, up_setA, rd_hi, Int.reduceToNat, if_neg (show ¬ (1 : Int) = 0 by decide), Nat.reduceAdd, e1, if_neg h0, i5, e2]
theorem s_keep (hS : S.length ≤ 2048) (hW : Wd D) : ∃ D2 : eD, Wd D2 ∧ (∀ K, 158 ≤ K → D2 K = keeD D K) ∧ ∀ Q, (wp 80 0 [.inr (.inl 8)] [] (hp S D) Q ↔ Q (some (.inl (D 159 0))) (hp S D2)) := by
  have t8 : tg 8 = 7 := rfl
  have t9 : tg 9 = 0 := rfl
  have t29 : tg 29 = 0 := rfl
  obtain ⟨⟨h1, h2, h3, h4, h5⟩, ⟨r1, ⟨r2, r3⟩, r4, r5⟩⟩ := hW
  obtain ⟨D1, i1, i2, i3⟩ := c1 (S := S) t29 t9 hS (by omega) h1 r1.1 (h5 29 t29)
  have g : ∀ K, K ≠ 8 → (K < 29 ∨ 48 < K) → up D1 8 7 1 K = D K := fun K k1 k2 => by rw [← i2 K (by omega)]; funext j; exact up_ne1 k1
  have g2 : ∀ K, K ≠ 8 → up D1 8 7 1 K = D1 K := fun K k1 => by funext j; exact up_ne1 k1
  have e5 : up D1 8 7 1 9 5 = D 159 0 := by rw [g 9 (by omega) (by omega)]; exact h1.1.1
  have e87 : up D1 8 7 1 8 7 = 1 := up_eq
  have nB : NoA D1 := NoA_fr (E := D1) h5 t29 i1 (fun K hK _ => i2 K hK)
  have nA : NoA (up D1 8 7 1) := by
    intro b hb
    have := tg0_cases b (tg_lt (by omega)) hb
    have y := nB b hb
    unfold NoL at y ⊢
    rw [g2 _ (by omega)]; exact y
  have hs : ∀ Q, (wp 80 0 [.inr (.inl 8)] [] (hp S D) Q ↔ Q (some (.inl (D 159 0))) (hp S (up D1 8 7 1))) := fun Q => by
    simp (disch := first | assumption | omega | decide | exact b2i_01 _ | (unfold lx; omega)) only [s80_0, s80_1, s80_4, s80_5, s80_8, s80_11, s80_12, s80_13, s80_16, s80_17, s80_20, s80_23, kont_some, kont_none, w32_of, if_true, if_false, tdv, tmd, setA_eq, up_setA, rd_hi, Int.reduceToNat, if_neg (show ¬ (1 : Int) = 0 by decide), Nat.reduceAdd, i3, e5]
  generalize up D1 8 7 1 = D2 at *
  have q8 : keeD D2 158 = fu (D 158) 5 1 := by unfold keeD; rw [setA_eq, g 158 (by omega) (by omega)]
  have q2 : keeD D2 162 = cpA (D 162) (D 159) 0 0 111 := by unfold keeD; rw [setA_ne (by decide), setA_eq, g 162 (by omega) (by omega), g 159 (by omega) (by omega)]
  have q : ∀ K, K ≠ 158 → K ≠ 162 → keeD D2 K = D2 K := fun K k1 k2 => by unfold keeD; rw [setA_ne k1, setA_ne k2]
  have b := St_b r1.1
  refine ⟨keeD D2, ?_, fun K hK => ?_, fun Q => ?_⟩
  · unfold Wd
    rw [q8, q2, q 159 (by omega) (by omega), q 161 (by omega) (by omega), q 163 (by omega) (by omega), g 159 (by omega) (by omega), g 161 (by omega) (by omega), g 163 (by omega) (by omega), fu_ne (by decide), fu_eq, fu_ne (by decide)]
    refine ⟨CW_cg (D := D2) ⟨Rel_cg h1 (fun K _ _ => g K (by omega) (by omega)), HiR_cg h2 (fun K _ _ => g K (by omega) (by omega)), ⟨e87, fun _ => ?_⟩, ⟨?_, fun i hi => ?_⟩, nA⟩ (fun K hK => q K (by omega) (by omega)), ⟨r1, ⟨r2, r3⟩, Or.inr ⟨rfl, Sok_row r1 (fun j hj => cpA_at hj)⟩, r5⟩⟩
    · exact Rel_row (Rel_cg i1 (fun K _ _ => g2 K (by omega))) b.1 b.2 (fun j hj => cpA_at hj)
    · rw [g 152 (by omega) (by omega)]; exact h4.1
    · rw [g 153 (by omega) (by omega)]; exact h4.2 i hi
  · unfold keeD setA
    rw [g 158 (by omega) (by omega), g 159 (by omega) (by omega), g 162 (by omega) (by omega)]
    split
    · rfl
    · split
      · rfl
      · exact g K (by omega) (by omega)
  · have eh : hp S (keeD D2) = hp S D2 := by
      refine hp_ext fun k j h => ?_
      have hk := h.2.1
      unfold keeD
      rw [setA_ne (by omega), setA_ne (by omega)]
    rw [eh]
    exact hs Q
end SPEC71
