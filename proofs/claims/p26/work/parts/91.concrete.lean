/-! rows that are written out; what is asked of them, and done to them -/
def rowL (l : List Int) : eRow := fun j => l.getD j 0
def agr (F : eRow) (l : List Int) : Bool := decide (l.length = 111) && (List.range 111).all fun j => F j == l.getD j 0
theorem agr_cu {F : eRow} {l : List Int} (h : agr F l = true) : cu F = rowL l := by
  unfold agr at h
  simp only [Bool.and_eq_true, decide_eq_true_eq] at h
  funext j
  unfold cu rowL
  split
  · next q =>
    have := List.all_eq_true.mp h.2 j (List.mem_range.mpr q)
    simpa using this
  · next q =>
    rw [List.getD_eq_getElem?_getD, List.getElem?_eq_none (by omega)]
    rfl
/-- recorded, with the answer r and the row l then -/
def chk (o : Int × Option eRow) (r : Int) (l : List Int) : Bool := match o.2 with
  | some H => o.1 == r && agr H l
  | none => false
/-- refused, with the answer r -/
def chk0 (o : Int × Option eRow) (r : Int) : Bool := match o.2 with
  | some _ => false
  | none => o.1 == r
def t154 (F : eRow) (s : Int) : Int := if 0 ≤ s ∧ s ≤ 5 then (if goF F s 0 then (if (tinF s 1100 0 F).2 (lx s 3) = 1 then (tinF s 1100 0 F).1 else -5) else -4) else -1
section SPEC91
variable {S : List Int} {D E : eD} {G W : eH} {Q : Option eV → eH → Prop} {y : Nat} {ls : List eV} {a s w v p t b r x1 x2 x3 : Int}
theorem m161_F (h : w < 12) : m161 D w = m161 (fun _ => D 159) w := by
  unfold m161
  rw [if_neg (show ¬ w = 12 by omega), if_neg (show ¬ w = 13 by omega), if_neg (show ¬ w = 12 by omega), if_neg (show ¬ w = 13 by omega)]
theorem m154_F : (m154 D s).1 = t154 (D 159) s := by
  unfold m154 t154
  repeat' split
  all_goals rfl
theorem n_act {o : Int × Option eRow} {l : List Int} (h : Sa S D y ls o) (e : chk o r l = true) : ∃ D2, Wd D2 ∧ D2 159 = rowL l ∧ ∀ Q, (wp y 0 (ls.map (sh G.length)) [] (em G W (hp S D)) Q ↔ Q (some (.inl r)) (em G W (hp S D2))) := by
  unfold chk at e
  split at e
  · next H hH =>
    simp only [Bool.and_eq_true, beq_iff_eq] at e
    obtain ⟨D2, i1, i2, iS, i3, i4, i5, i6⟩ := cl_some (G := G) (W := W) h hH
    rw [e.1] at i6
    exact ⟨D2, i1, i2.trans (agr_cu e.2), i6⟩
  · cases e
theorem n_ref {o : Int × Option eRow} {F : eRow} (h : Sa S D y ls o) (hF : D 159 = F) (e : chk0 o r = true) : ∃ D2, Wd D2 ∧ D2 159 = F ∧ ∀ Q, (wp y 0 (ls.map (sh G.length)) [] (em G W (hp S D)) Q ↔ Q (some (.inl r)) (em G W (hp S D2))) := by
  unfold chk0 at e
  split at e
  · cases e
  · next hH =>
    rw [beq_iff_eq] at e
    obtain ⟨D2, i1, i2, i3⟩ := cl_ref (G := G) (W := W) (r := r) h (Prod.ext e hH)
    exact ⟨D2, i1, (i2 159 (by decide)).trans hF, i3⟩
theorem l_isEv (hS : S.length ≤ 2048) (hW : Wd D) (h0 : m159 D b 0 = x1) (h1 : m159 D b 1 = x2) (h2 : m159 D b 2 = x3) : wp 106 0 [.inr (.inl (8 + G.length)), .inl b, .inl x1, .inl x2, .inl x3] [] (em G W (hp S D)) Q ↔ Q (some (.inl 1)) (em G W (hp S D)) := by
  simp (disch := first | assumption | omega | decide | exact b2i_01 _ | (unfold lx; omega)) only [s106_0, s106_1, s106_2, s106_3, s106_6, s106_7, s106_10, s106_11, s106_12, s106_13, s106_16, s106_17, s106_20, s106_21, s106_22, s106_23, s106_26, s106_28, s106_31, s106_32, s106_35, s106_36, kont_some, kont_none, w32_of, if_true, if_false, tdv, tmd, setA_eq, up_setA, rd_hi, Int.reduceToNat, if_neg (show ¬ (1 : Int) = 0 by decide), l_event hS hW, h0, h1, h2]
theorem Dz_lm : ∀ s : Nat, s < 6 → (Dz 159 (lx s 0) = -5 ∧ Dz 159 (lx s 1) = 0 ∧ Dz 159 (lx s 2) = 0 ∧ Dz 159 (lx s 3) = 0 ∧ Dz 159 (lx s 4) = 0) := by decide +kernel
theorem Dz_St : St (Dz 159) := by
  refine ⟨fun s h1 h2 => ?_, by decide +kernel, by decide +kernel, by decide +kernel, by decide +kernel, by decide +kernel, by decide +kernel, by decide +kernel, by decide +kernel, by decide +kernel, by decide +kernel, by decide +kernel, by decide +kernel, by decide +kernel, by decide +kernel, by decide +kernel, by decide +kernel, by decide +kernel, by decide +kernel, by decide +kernel, by decide +kernel, fun k h1 h2 => ?_⟩
  · have z := Dz_lm s.toNat (by omega)
    rw [show ((s.toNat : Nat) : Int) = s by omega] at z
    obtain ⟨z0, z1, z2, z3, z4⟩ := z
    unfold LmB
    rw [z0, z1, z2, z3, z4]
    decide
  · have : Dz 159 49 = 0 := by decide +kernel
    omega
theorem Dz_Sok : Sok (Dz 159) := by
  refine ⟨Dz_St, by unfold Ct; decide +kernel, ⟨by decide +kernel, fun i j h1 h2 h3 => ?_⟩, by decide +kernel⟩
  have : Dz 159 49 = 0 := by decide +kernel
  omega
theorem Dz_NoA : NoA Dz := by
  intro b hb
  have h := tg0_cases b (tg_lt (by omega)) hb
  unfold NoL
  rcases h with rfl | rfl | rfl | rfl | rfl | rfl | rfl <;> decide +kernel
theorem Dz_Rel : Rel Dz 9 (Dz 159) := by
  have e49 : Dz 159 49 = 0 := by decide +kernel
  have e80 : Dz 159 80 = 0 := by decide +kernel
  refine ⟨by decide +kernel, by decide +kernel, by decide +kernel, ⟨by decide +kernel, fun s h1 h2 => Or.inl ?_, by decide +kernel⟩, ⟨by decide +kernel, fun i h1 h2 => by omega, fun i h1 h2 => by omega, fun i j h1 h2 => by omega⟩, ⟨by decide +kernel, by decide +kernel, fun i h1 h2 => by omega⟩⟩
  have z := Dz_lm s.toNat (by omega)
  rw [show ((s.toNat : Nat) : Int) = s by omega] at z
  rw [z.1]
  rcases (show s = 0 ∨ s = 1 ∨ s = 2 ∨ s = 3 ∨ s = 4 ∨ s = 5 by omega) with rfl | rfl | rfl | rfl | rfl | rfl <;> decide +kernel
theorem Dz_3 : Dz 158 3 = 0 := by decide +kernel
theorem Dz_5 : Dz 158 5 = 0 := by decide +kernel
theorem Dz_7 : Dz 158 7 = 0 := by decide +kernel
theorem Dz_Wd : Wd Dz := by
  unfold Wd
  rw [Dz_3, Dz_5, Dz_7]
  refine ⟨⟨Dz_Rel, ⟨by decide +kernel, by decide +kernel, by decide, fun i h1 h2 => by omega⟩, ⟨by decide +kernel, fun z => absurd z (by decide)⟩, ⟨by decide +kernel, fun i hi => by omega⟩, Dz_NoA⟩, ⟨Dz_Sok, ⟨by decide, fun i h1 h2 => by omega⟩, Or.inl rfl, ⟨by decide, fun j => ?_⟩⟩⟩
  have e : Dz 163 j = 0 := rfl
  rw [e]
  decide
theorem Dz_row : Dz 159 = rowL dzR := rfl
theorem Dz_cu : cu (Dz 159) = Dz 159 := by
  funext j
  unfold cu
  split
  · rfl
  · next q =>
    rw [Dz_row]
    unfold rowL
    rw [List.getD_eq_getElem?_getD, List.getElem?_eq_none (by show 37 ≤ j; omega)]
    rfl
end SPEC91
