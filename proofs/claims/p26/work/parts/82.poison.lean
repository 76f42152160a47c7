/-! a run that doesn't look at the script: cell 7 as a poisoned cell, and then as any cell -/
def pzC : eC := (555, [])
def ePz (c : eC) (f : eK) : Prop := ∀ (y pc : Nat) (ls st : List eV) (h : eH) (r : Option eV) (h2 : eH), h[7]? = some pzC → f y pc ls st h = some (r, h2) → f y pc ls st (h.set 7 c) = some (r, h2.set 7 c) ∧ h2[7]? = some pzC
section EPZ
variable {c : eC} {f : eK} {y pc k : Nat} {ls st : List eV} {h h2 : eH} {r : Option eV}
theorem pz_get {a : Nat} (ha : a ≠ 7) : (h.set 7 c)[a]? = h[a]? := List.getElem?_set_ne (fun z => ha z.symm)
theorem pz_set {a : Nat} {x : eC} (ha : a ≠ 7) : (h.set 7 c).set a x = (h.set a x).set 7 c := (List.set_comm _ _ ha).symm
theorem pz_set7 {a : Nat} {x : eC} (ha : a ≠ 7) (hz : h[7]? = some pzC) : (h.set a x)[7]? = some pzC := by rw [List.getElem?_set_ne ha]; exact hz
theorem pz_lt (hz : h[7]? = some pzC) : 7 < h.length := (List.getElem?_eq_some_iff.mp hz).1
theorem pz_app {x : eC} (hz : h[7]? = some pzC) : h.set 7 c ++ [x] = (h ++ [x]).set 7 c := (List.set_append_left _ _ (pz_lt hz)).symm
theorem pz_app7 {x : eC} (hz : h[7]? = some pzC) : (h ++ [x])[7]? = some pzC := by rw [List.getElem?_append_left (pz_lt hz)]; exact hz
theorem zJ {off : Int} (H : ePz c f) (hz : h[7]? = some pzC) : eJ f y pc off ls st h = some (r, h2) → eJ f y pc off ls st (h.set 7 c) = some (r, h2.set 7 c) ∧ h2[7]? = some pzC := by
  unfold eJ
  split
  · exact H _ _ _ _ _ _ _ hz
  · exact fun z => by cases z
theorem zAld (H : ePz c f) (hz : h[7]? = some pzC) : xAld f y pc k ls st h = some (r, h2) → xAld f y pc k ls st (h.set 7 c) = some (r, h2.set 7 c) ∧ h2[7]? = some pzC := by
  unfold xAld
  repeat' split
  all_goals first | exact H _ _ _ _ _ _ _ hz | (intro z; cases z; done)
theorem zIld (H : ePz c f) (hz : h[7]? = some pzC) : xIld f y pc k ls st h = some (r, h2) → xIld f y pc k ls st (h.set 7 c) = some (r, h2.set 7 c) ∧ h2[7]? = some pzC := by
  unfold xIld
  repeat' split
  all_goals first | exact H _ _ _ _ _ _ _ hz | (intro z; cases z; done)
theorem zAst (H : ePz c f) (hz : h[7]? = some pzC) : xAst f y pc k ls st h = some (r, h2) → xAst f y pc k ls st (h.set 7 c) = some (r, h2.set 7 c) ∧ h2[7]? = some pzC := by
  unfold xAst
  repeat' split
  all_goals first | exact H _ _ _ _ _ _ _ hz | (intro z; cases z; done)
theorem zIst (H : ePz c f) (hz : h[7]? = some pzC) : xIst f y pc k ls st h = some (r, h2) → xIst f y pc k ls st (h.set 7 c) = some (r, h2.set 7 c) ∧ h2[7]? = some pzC := by
  unfold xIst
  repeat' split
  all_goals first | exact H _ _ _ _ _ _ _ hz | (intro z; cases z; done)
theorem zBin {op : Int → Int → Int} (H : ePz c f) (hz : h[7]? = some pzC) : xBin f y pc op ls st h = some (r, h2) → xBin f y pc op ls st (h.set 7 c) = some (r, h2.set 7 c) ∧ h2[7]? = some pzC := by
  unfold xBin
  repeat' split
  all_goals first | exact H _ _ _ _ _ _ _ hz | (intro z; cases z; done)
theorem zBin0 {op : Int → Int → Int} (H : ePz c f) (hz : h[7]? = some pzC) : xBin0 f y pc op ls st h = some (r, h2) → xBin0 f y pc op ls st (h.set 7 c) = some (r, h2.set 7 c) ∧ h2[7]? = some pzC := by
  unfold xBin0
  repeat' split
  all_goals first | exact H _ _ _ _ _ _ _ hz | (intro z; cases z; done)
theorem zIf {d : Jvm.ClassFile.Cond} {off : Int} (H : ePz c f) (hz : h[7]? = some pzC) : xIf f y pc d off ls st h = some (r, h2) → xIf f y pc d off ls st (h.set 7 c) = some (r, h2.set 7 c) ∧ h2[7]? = some pzC := by
  unfold xIf
  repeat' split
  all_goals first | exact H _ _ _ _ _ _ _ hz | (intro z; cases z; done)
theorem zIcmp {d : Jvm.ClassFile.Cond} {off : Int} (H : ePz c f) (hz : h[7]? = some pzC) : xIcmp f y pc d off ls st h = some (r, h2) → xIcmp f y pc d off ls st (h.set 7 c) = some (r, h2.set 7 c) ∧ h2[7]? = some pzC := by
  unfold xIcmp
  repeat' split
  all_goals first | exact H _ _ _ _ _ _ _ hz | (intro z; cases z; done)
theorem zNul {j : Bool} {off : Int} (H : ePz c f) (hz : h[7]? = some pzC) : xNul f y pc j off ls st h = some (r, h2) → xNul f y pc j off ls st (h.set 7 c) = some (r, h2.set 7 c) ∧ h2[7]? = some pzC := by
  unfold xNul
  repeat' split
  all_goals first | exact H _ _ _ _ _ _ _ hz | exact zJ H hz | (intro z; cases z; done)
theorem zAlen (H : ePz c f) (hz : h[7]? = some pzC) : xAlen f y pc ls st h = some (r, h2) → xAlen f y pc ls st (h.set 7 c) = some (r, h2.set 7 c) ∧ h2[7]? = some pzC := by
  unfold xAlen
  split
  · next a st =>
    by_cases ha : a = 7
    · subst ha
      rw [hz]
      dsimp only
      rw [if_neg (by intro q; exact absurd q.1 (by decide))]
      exact fun z => by cases z
    · rw [pz_get ha]
      split
      · split
        · exact H _ _ _ _ _ _ _ hz
        · exact fun z => by cases z
      · exact fun z => by cases z
  · exact fun z => by cases z
theorem zIald {t : Nat} (ht : t ≠ 555) (H : ePz c f) (hz : h[7]? = some pzC) : xIald f y pc t ls st h = some (r, h2) → xIald f y pc t ls st (h.set 7 c) = some (r, h2.set 7 c) ∧ h2[7]? = some pzC := by
  unfold xIald
  split
  · next i a st =>
    by_cases ha : a = 7
    · subst ha
      rw [hz]
      dsimp only
      rw [if_neg (by intro q; exact ht q.1.symm)]
      exact fun z => by cases z
    · rw [pz_get ha]
      repeat' split
      all_goals first | exact H _ _ _ _ _ _ _ hz | (intro z; cases z; done)
  · exact fun z => by cases z
theorem zAald (H : ePz c f) (hz : h[7]? = some pzC) : xAald f y pc ls st h = some (r, h2) → xAald f y pc ls st (h.set 7 c) = some (r, h2.set 7 c) ∧ h2[7]? = some pzC := by
  unfold xAald
  split
  · next i a st =>
    by_cases ha : a = 7
    · subst ha
      rw [hz]
      dsimp only
      rw [if_neg (by intro q; exact absurd q.1 (by decide))]
      exact fun z => by cases z
    · rw [pz_get ha]
      repeat' split
      all_goals first | exact H _ _ _ _ _ _ _ hz | (intro z; cases z; done)
  · exact fun z => by cases z
theorem zIastore {t : Nat} (ht : t ≠ 555) (H : ePz c f) (hz : h[7]? = some pzC) : xIastore f y pc t ls st h = some (r, h2) → xIastore f y pc t ls st (h.set 7 c) = some (r, h2.set 7 c) ∧ h2[7]? = some pzC := by
  unfold xIastore
  split
  · next x i a st =>
    by_cases ha : a = 7
    · subst ha
      rw [hz]
      dsimp only
      rw [if_neg (by intro q; exact ht q.1.symm)]
      exact fun z => by cases z
    · rw [pz_get ha]
      split
      · split
        · rw [pz_set ha]
          exact H _ _ _ _ _ _ _ (pz_set7 ha hz)
        · exact fun z => by cases z
      · exact fun z => by cases z
  · exact fun z => by cases z
theorem zAastore (H : ePz c f) (hz : h[7]? = some pzC) : xAastore f y pc ls st h = some (r, h2) → xAastore f y pc ls st (h.set 7 c) = some (r, h2.set 7 c) ∧ h2[7]? = some pzC := by
  unfold xAastore
  split
  · next x i a st =>
    by_cases ha : a = 7
    · subst ha
      rw [hz]
      split
      · next d1 d2 hd1 hd2 =>
        cases hd1
        rw [if_neg (by intro q; exact q.1.elim (fun z => absurd z.1 (by decide)) (fun z => absurd z.1 (by decide)))]
        exact fun z => by cases z
      · exact fun z => by cases z
    · by_cases hx : x = 7
      · subst hx
        rw [hz]
        split
        · next d1 d2 hd1 hd2 =>
          cases hd2
          rw [if_neg (by intro q; exact q.1.elim (fun z => absurd z.2 (by decide)) (fun z => absurd z.2 (by decide)))]
          exact fun z => by cases z
        · exact fun z => by cases z
      · rw [pz_get ha, pz_get hx]
        split
        · split
          · rw [pz_set ha]
            exact H _ _ _ _ _ _ _ (pz_set7 ha hz)
          · exact fun z => by cases z
        · exact fun z => by cases z
  · exact fun z => by cases z
theorem zFk {o idx : Nat} {q : Nat × Nat × Nat} (hq : eFk o idx = some q) : q.1 ≠ 555 := by
  unfold eFk at hq
  obtain ⟨e, he, rfl⟩ := Option.map_eq_some_iff.mp hq
  have h1 : eFl.all (fun e => e.2.2.1 != 555) = true := by decide +kernel
  have h2 := List.all_eq_true.mp h1 e (List.mem_of_find?_eq_some he)
  simpa using h2
theorem zGet {idx : Nat} (H : ePz c f) (hz : h[7]? = some pzC) : xGet f y pc idx ls st h = some (r, h2) → xGet f y pc idx ls st (h.set 7 c) = some (r, h2.set 7 c) ∧ h2[7]? = some pzC := by
  unfold xGet
  split
  · next a st =>
    by_cases ha : a = 7
    · subst ha
      rw [hz]
      split
      · next q d hq hd =>
        cases hd
        rw [if_neg (by intro z; exact zFk hq z.1.symm)]
        exact fun z => by cases z
      · exact fun z => by cases z
    · rw [pz_get ha]
      repeat' split
      all_goals first | exact H _ _ _ _ _ _ _ hz | (intro z; cases z; done)
  · exact fun z => by cases z
theorem zPut {idx : Nat} (H : ePz c f) (hz : h[7]? = some pzC) : xPut f y pc idx ls st h = some (r, h2) → xPut f y pc idx ls st (h.set 7 c) = some (r, h2.set 7 c) ∧ h2[7]? = some pzC := by
  unfold xPut
  split
  · next v a st =>
    by_cases ha : a = 7
    · subst ha
      rw [hz]
      split
      · next q d hq hd =>
        cases hd
        rw [if_neg (by intro z; exact zFk hq z.1.symm)]
        exact fun z => by cases z
      · exact fun z => by cases z
    · rw [pz_get ha]
      split
      · split
        · rw [pz_set ha]
          exact H _ _ _ _ _ _ _ (pz_set7 ha hz)
        · exact fun z => by cases z
      · exact fun z => by cases z
  · exact fun z => by cases z
theorem zNew {idx : Nat} (H : ePz c f) (hz : h[7]? = some pzC) : xNew f y pc idx ls st h = some (r, h2) → xNew f y pc idx ls st (h.set 7 c) = some (r, h2.set 7 c) ∧ h2[7]? = some pzC := by
  unfold xNew
  rw [List.length_set]
  split
  · split
    · split
      · rw [pz_app hz]
        exact H _ _ _ _ _ _ _ (pz_app7 hz)
      · exact fun z => by cases z
    · exact fun z => by cases z
  · exact fun z => by cases z
theorem zNewa {t : Nat} {v : eV} (H : ePz c f) (hz : h[7]? = some pzC) : xNewa f y pc t v ls st h = some (r, h2) → xNewa f y pc t v ls st (h.set 7 c) = some (r, h2.set 7 c) ∧ h2[7]? = some pzC := by
  unfold xNewa
  rw [List.length_set]
  split
  · split
    · rw [pz_app hz]
      exact H _ _ _ _ _ _ _ (pz_app7 hz)
    · exact fun z => by cases z
  · exact fun z => by cases z
theorem zCopy (H : ePz c f) (hz : h[7]? = some pzC) : xCopy f y pc ls st h = some (r, h2) → xCopy f y pc ls st (h.set 7 c) = some (r, h2.set 7 c) ∧ h2[7]? = some pzC := by
  unfold xCopy
  split
  · next n dp d sp s st =>
    by_cases hs : s = 7
    · subst hs
      rw [hz]
      split
      · next d1 d2 hd1 hd2 =>
        cases hd1
        rw [if_neg (by intro q; exact absurd q.1 (by decide))]
        exact fun z => by cases z
      · exact fun z => by cases z
    · by_cases hd : d = 7
      · subst hd
        rw [hz]
        split
        · next d1 d2 hd1 hd2 =>
          cases hd2
          rw [if_neg (by intro q; exact absurd q.2.1 (by decide))]
          exact fun z => by cases z
        · exact fun z => by cases z
      · rw [pz_get hs, pz_get hd]
        split
        · split
          · rw [pz_set hd]
            exact H _ _ _ _ _ _ _ (pz_set7 hd hz)
          · exact fun z => by cases z
        · exact fun z => by cases z
  · exact fun z => by cases z
theorem zRun {y2 : Nat} {vs : List eV} (H : ePz c f) (hz : h[7]? = some pzC) : xRun f y pc y2 vs ls st h = some (r, h2) → xRun f y pc y2 vs ls st (h.set 7 c) = some (r, h2.set 7 c) ∧ h2[7]? = some pzC := by
  unfold xRun
  split
  · split
    · next q hq =>
      obtain ⟨e1, e2⟩ := H _ _ _ _ _ q.1 q.2 hz hq
      rw [e1]
      exact H _ _ _ _ _ _ _ e2
    · exact fun z => by cases z
  · exact fun z => by cases z
theorem zCall {k0 idx : Nat} (hG : ∀ o, eG o ≠ 555) (H : ePz c f) (hz : h[7]? = some pzC) : xCall f k0 y pc idx ls st h = some (r, h2) → xCall f k0 y pc idx ls st (h.set 7 c) = some (r, h2.set 7 c) ∧ h2[7]? = some pzC := by
  unfold xCall
  split
  · next q hq =>
    split
    · split
      · exact zRun H hz
      · split
        · exact zCopy H hz
        · exact fun z => by cases z
    · split
      · split
        · split
          · next b rest hb =>
            by_cases ha : b = 7
            · subst ha
              rw [hz]
              dsimp only
              rw [if_neg (by intro z; exact hG _ z.1.symm)]
              exact fun z => by cases z
            · rw [pz_get ha]
              split
              · split
                · exact zRun H hz
                · exact fun z => by cases z
              · exact fun z => by cases z
          · exact fun z => by cases z
        · exact fun z => by cases z
      · split
        · split
          · split
            · exact zRun H hz
            · exact fun z => by cases z
          · exact fun z => by cases z
        · split
          · split
            · split
              · exact H _ _ _ _ _ _ _ hz
              · exact fun z => by cases z
            · exact fun z => by cases z
          · exact fun z => by cases z
  · exact fun z => by cases z
theorem zLld (H : ePz c f) (hz : h[7]? = some pzC) : xLld f y pc k ls st h = some (r, h2) → xLld f y pc k ls st (h.set 7 c) = some (r, h2.set 7 c) ∧ h2[7]? = some pzC := by
  unfold xLld
  repeat' split
  all_goals first | exact H _ _ _ _ _ _ _ hz | (intro z; cases z; done)
theorem zLst (H : ePz c f) (hz : h[7]? = some pzC) : xLst f y pc k ls st h = some (r, h2) → xLst f y pc k ls st (h.set 7 c) = some (r, h2.set 7 c) ∧ h2[7]? = some pzC := by
  unfold xLst
  repeat' split
  all_goals first | exact H _ _ _ _ _ _ _ hz | (intro z; cases z; done)
theorem zLbin {op : Int64 → Int64 → Int64} (H : ePz c f) (hz : h[7]? = some pzC) : xLbin f y pc op ls st h = some (r, h2) → xLbin f y pc op ls st (h.set 7 c) = some (r, h2.set 7 c) ∧ h2[7]? = some pzC := by
  unfold xLbin
  repeat' split
  all_goals first | exact H _ _ _ _ _ _ _ hz | (intro z; cases z; done)
theorem zLshr (H : ePz c f) (hz : h[7]? = some pzC) : xLshr f y pc ls st h = some (r, h2) → xLshr f y pc ls st (h.set 7 c) = some (r, h2.set 7 c) ∧ h2[7]? = some pzC := by
  unfold xLshr
  repeat' split
  all_goals first | exact H _ _ _ _ _ _ _ hz | (intro z; cases z; done)
theorem zLcmp (H : ePz c f) (hz : h[7]? = some pzC) : xLcmp f y pc ls st h = some (r, h2) → xLcmp f y pc ls st (h.set 7 c) = some (r, h2.set 7 c) ∧ h2[7]? = some pzC := by
  unfold xLcmp
  repeat' split
  all_goals first | exact H _ _ _ _ _ _ _ hz | (intro z; cases z; done)
theorem zI2l (H : ePz c f) (hz : h[7]? = some pzC) : xI2l f y pc ls st h = some (r, h2) → xI2l f y pc ls st (h.set 7 c) = some (r, h2.set 7 c) ∧ h2[7]? = some pzC := by
  unfold xI2l
  repeat' split
  all_goals first | exact H _ _ _ _ _ _ _ hz | (intro z; cases z; done)
theorem zL2i (H : ePz c f) (hz : h[7]? = some pzC) : xL2i f y pc ls st h = some (r, h2) → xL2i f y pc ls st (h.set 7 c) = some (r, h2.set 7 c) ∧ h2[7]? = some pzC := by
  unfold xL2i
  repeat' split
  all_goals first | exact H _ _ _ _ _ _ _ hz | (intro z; cases z; done)
theorem zLald (H : ePz c f) (hz : h[7]? = some pzC) : xLald f y pc ls st h = some (r, h2) → xLald f y pc ls st (h.set 7 c) = some (r, h2.set 7 c) ∧ h2[7]? = some pzC := by
  unfold xLald
  split
  · next i a st =>
    by_cases ha : a = 7
    · subst ha
      rw [hz]
      dsimp only
      rw [if_neg (by intro q; exact absurd q.1 (by decide))]
      exact fun z => by cases z
    · rw [pz_get ha]
      repeat' split
      all_goals first | exact H _ _ _ _ _ _ _ hz | (intro z; cases z; done)
  · exact fun z => by cases z
theorem zLast (H : ePz c f) (hz : h[7]? = some pzC) : xLast f y pc ls st h = some (r, h2) → xLast f y pc ls st (h.set 7 c) = some (r, h2.set 7 c) ∧ h2[7]? = some pzC := by
  unfold xLast
  split
  · next x i a st =>
    by_cases ha : a = 7
    · subst ha
      rw [hz]
      dsimp only
      rw [if_neg (by intro q; exact absurd q.1 (by decide))]
      exact fun z => by cases z
    · rw [pz_get ha]
      split
      · split
        · rw [pz_set ha]
          exact H _ _ _ _ _ _ _ (pz_set7 ha hz)
        · exact fun z => by cases z
      · exact fun z => by cases z
  · exact fun z => by cases z
theorem exI_pz {i : Instr} {len : Nat} (hG : ∀ o, eG o ≠ 555) (H : ePz c f) (hz : h[7]? = some pzC) : exI f y pc i len ls st h = some (r, h2) → exI f y pc i len ls st (h.set 7 c) = some (r, h2.set 7 c) ∧ h2[7]? = some pzC := by
  cases i <;> simp only [exI, xPush] <;> (repeat' split) <;>
    first | exact H _ _ _ _ _ _ _ hz | exact zCall hG H hz | exact zJ H hz | exact zAld H hz | exact zIld H hz | exact zAst H hz | exact zIst H hz | exact zBin H hz | exact zBin0 H hz | exact zIf H hz | exact zIcmp H hz | exact zNul H hz | exact zAlen H hz | exact zIald (by decide) H hz | exact zAald H hz | exact zIastore (by decide) H hz | exact zAastore H hz | exact zGet H hz | exact zPut H hz | exact zNew H hz | exact zNewa H hz | exact zLld H hz | exact zLst H hz | exact zLbin H hz | exact zLshr H hz | exact zLcmp H hz | exact zI2l H hz | exact zL2i H hz | exact zLald H hz | exact zLast H hz | (intro z; cases z; exact ⟨rfl, hz⟩) | (intro z; cases z; done)
end EPZ
theorem eG_555 : ∀ o, eG o ≠ 555 := by
  intro o
  unfold eG
  rw [List.getD_eq_getElem?_getD]
  cases h : eGs[o]? with
  | none => decide
  | some v =>
    have h1 : eGs.all (fun e => e != 555) = true := by decide +kernel
    have h2 := List.all_eq_true.mp h1 v (List.mem_of_getElem? h)
    simpa using h2
theorem ex_pz {c : eC} : ∀ n : Nat, ePz c (ex n)
  | 0 => fun _ _ _ _ _ _ _ _ h => by cases h
  | n + 1 => fun y pc ls st h r h2 hz hr => by
    unfold ex at hr ⊢
    split at hr
    · next i len hd => exact exI_pz eG_555 (ex_pz n) hz hr
    · cases hr
