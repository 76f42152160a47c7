/-! the law's start -/
theorem eH0_Z {L : Nat} {xs : Nat → Int32} : eH0 L xs = hZ.set 7 (100, (List.range L).map fun j => (.inl (xs j).toInt : eV)) := rfl
theorem ceF_S {S : List Int} {D : eD} {k : Nat} (h : k ≠ 7) : ceF [] D k = ceF S D k := by
  unfold ceF slF rd stv ln
  simp only [if_neg h]
theorem hq_len {n : Nat} : (hq n).length = n := by simp [hq]
theorem hq_get {n k : Nat} (h : k < n) : (hq n)[k]? = some (if k = 7 then pzC else ceF [] Dz k) := by
  unfold hq
  rw [List.getElem?_map, List.getElem?_range h]
  rfl
theorem hq_hp {S : List Int} : (hq 165).set 7 (ceF S Dz 7) = hp S Dz := by
  apply List.ext_getElem?
  intro i
  by_cases h7 : i = 7
  · subst h7
    rw [List.getElem?_set_self (by rw [hq_len]; decide), hp_get (by decide)]
  · rw [List.getElem?_set_ne (fun z => h7 z.symm)]
    by_cases hi : i < 165
    · rw [hq_get hi, if_neg h7, hp_get hi, ceF_S h7]
    · rw [List.getElem?_eq_none (by rw [hq_len]; omega), List.getElem?_eq_none (by rw [hp_len]; omega)]
theorem ce_7 {L : Nat} {xs : Nat → Int32} : ((100, (List.range L).map fun j => (.inl (xs j).toInt : eV)) : eC) = ceF ((List.range L).map fun j => (xs j).toInt) Dz 7 := by
  unfold ceF
  refine Prod.ext rfl ?_
  have hl : ln ((List.range L).map fun j => (xs j).toInt) 7 = L := by
    show ((List.range L).map fun j => (xs j).toInt).length = L
    simp
  rw [hl]
  apply List.map_congr_left
  intro j hj
  rw [List.mem_range] at hj
  show _ = (.inl (((List.range L).map fun j => (xs j).toInt).getD j 0) : eV)
  rw [List.getD_eq_getElem?_getD, List.getElem?_map, List.getElem?_range hj]
  rfl
theorem e_new7 {ls st : List eV} {h : eH} {Q : Option eV → eH → Prop} : wp 166 0 ls st h Q ↔ wp 166 3 ls (.inr h.length :: st) (h ++ [(7, eDv.getD 7 [])]) Q := by
  have e1 : eNk (eO 166) 7 = some 7 := by decide +kernel
  have e2 : eDv[7]? = some (eDv.getD 7 []) := by decide +kernel
  refine wp_step dL_law_0 (fun f => ?_)
  show xNew f 166 0 7 ls st h = _
  unfold xNew
  rw [e1]
  dsimp only
  rw [if_pos (by decide), e2]
theorem e_new8 {ls st : List eV} {h : eH} {Q : Option eV → eH → Prop} : wp 166 8 ls st h Q ↔ wp 166 11 ls (.inr h.length :: st) (h ++ [(8, eDv.getD 8 [])]) Q := by
  have e1 : eNk (eO 166) 10 = some 8 := by decide +kernel
  have e2 : eDv[8]? = some (eDv.getD 8 []) := by decide +kernel
  refine wp_step dL_law_8 (fun f => ?_)
  show xNew f 166 8 10 ls st h = _
  unfold xNew
  rw [e1]
  dsimp only
  rw [if_pos (by decide), e2]
theorem w_made {L : Nat} {xs : Nat → Int32} {Q : Option eV → eH → Prop} : wp 166 0 [.inr 7, .inr 0, .inr 0, .inr 0] [] (eH0 L xs) Q ↔ wp 166 18 [.inr 7, .inr 8, .inr 158, .inl 0] [] (hp ((List.range L).map fun j => (xs j).toInt) Dz) Q := by
  have h7 : (hZ ++ [((7, eDv.getD 7 []) : eC)])[7]? = some pzC := rfl
  have h8 : (hq 158 ++ [((8, eDv.getD 8 []) : eC)])[7]? = some pzC := by
    rw [List.getElem?_append_left (by rw [hq_len]; decide), hq_get (by decide)]
    rfl
  obtain ⟨a1, a2⟩ := ex_pz (c := (100, (List.range L).map fun j => (.inl (xs j).toInt : eV))) 3000 _ _ _ _ _ _ _ h7 k67
  obtain ⟨b1, b2⟩ := ex_pz (c := (100, (List.range L).map fun j => (.inl (xs j).toInt : eV))) 3000 _ _ _ _ _ _ _ h8 k98
  have e1 : eH0 L xs ++ [(7, eDv.getD 7 [])] = (hZ ++ [((7, eDv.getD 7 []) : eC)]).set 7 (100, (List.range L).map fun j => (.inl (xs j).toInt : eV)) := rfl
  have e2 : (hq 158).set 7 (100, (List.range L).map fun j => (.inl (xs j).toInt : eV)) ++ [(8, eDv.getD 8 [])] = (hq 158 ++ [((8, eDv.getD 8 []) : eC)]).set 7 (100, (List.range L).map fun j => (.inl (xs j).toInt : eV)) := (List.set_append_left _ _ (by rw [hq_len]; decide)).symm
  rw [← e1] at a1
  rw [← e2] at b1
  have c67 : ∀ Q', (wp 67 0 [.inr 8] [] (eH0 L xs ++ [(7, eDv.getD 7 [])]) Q' ↔ Q' none ((hq 158).set 7 (100, (List.range L).map fun j => (.inl (xs j).toInt : eV)))) := fun Q' => wp_iff ⟨3000, none, _, a1, rfl, rfl⟩ Q'
  have c98 : ∀ Q', (wp 98 0 [.inr 158, .inr 0] [] ((hq 158).set 7 (100, (List.range L).map fun j => (.inl (xs j).toInt : eV)) ++ [(8, eDv.getD 8 [])]) Q' ↔ Q' none ((hq 165).set 7 (100, (List.range L).map fun j => (.inl (xs j).toInt : eV)))) := fun Q' => wp_iff ⟨3000, none, _, b1, rfl, rfl⟩ Q'
  rw [e_new7, eH0_len, s166_3, s166_4 (by decide), c67, kont_none, s166_7 (by decide), e_new8, List.length_set, hq_len, s166_11, s166_12 (by decide), c98, kont_none, s166_15 (by decide), s166_16, s166_17, ce_7, hq_hp]
