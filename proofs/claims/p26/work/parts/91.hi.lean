/-! rows that end at their last number stay so; many ticks in pieces -/
def HB (F : eRow) : Prop := (∀ j, 111 ≤ j → F j = 0) ∧ 0 ≤ F 80 ∧ F 80 ≤ 10
theorem HB_fu {F : eRow} {k : Nat} {v : Int} (h : HB F) (hk : k < 111) (h8 : 80 ≠ k) : HB (fu F k v) :=
  ⟨fun j hj => by rw [fu_ne (by omega)]; exact h.1 j hj, by rw [fu_ne h8]; exact h.2⟩
theorem HB_hap {F : eRow} {w s : Int} (h : HB F) : HB (hapF F w s) := by
  obtain ⟨h1, h2, h3⟩ := h
  refine ⟨fun j hj => ?_, hapF_80b h2 h3⟩
  unfold hapF hapA
  split
  · rw [fu_eq (F := shK F 108), fu_ne (by omega), fu_ne (by omega), fu_ne (by omega), fu_ne (by omega), fu_ne (by omega), fu_ne (by omega)]
    unfold shK
    rw [if_neg (by omega)]
    exact h1 j hj
  · rw [fu_ne (by omega), fu_ne (by omega), fu_ne (by omega), fu_ne (by omega), fu_ne (by omega)]
    exact h1 j hj
theorem HB_tur {F : eRow} {s : Int} (h : HB F) : HB (turF F s) := HB_fu (HB_fu (HB_fu h (by decide) (by decide)) (by decide) (by decide)) (by decide) (by decide)
theorem HB_lx {F : eRow} {s p v : Int} (h : HB F) (h0 : 0 ≤ s) (h5 : s ≤ 5) (p0 : 0 ≤ p) (p4 : p ≤ 4) : HB (fu F (lx s p) v) := by
  have := lx_b h0 h5 p0 p4
  exact HB_fu h (by omega) (by omega)
theorem HB_brn {F : eRow} {s : Int} (h : HB F) (h0 : 0 ≤ s) (h5 : s ≤ 5) : HB (brnF F s) := by
  have h2 : HB (brn2 (brn1 F s) s) := HB_lx (HB_lx h h0 h5 (by decide) (by decide)) h0 h5 (by decide) (by decide)
  unfold brnF
  generalize brn2 (brn1 F s) s = G at h2
  have h3 : HB (brn3 G s) := by
    unfold brn3
    split
    · exact HB_hap (HB_lx h2 h0 h5 (by decide) (by decide))
    · exact h2
  generalize brn3 G s = K at h3
  unfold brn4
  split
  · exact HB_fu (HB_hap (HB_fu h3 (by decide) (by decide))) (by decide) (by decide)
  · exact HB_fu h3 (by decide) (by decide)
theorem HB_lit {F : eRow} (h : HB F) (h0 : 0 ≤ F 7) (h5 : F 7 ≤ 5) : HB (litF F).2 := by
  have hS : HB (litS F) := HB_lx h h0 h5 (by decide) (by decide)
  unfold litF
  split
  · split
    · split
      · exact HB_hap hS
      · exact HB_brn hS h0 h5
    · exact HB_brn h h0 h5
  · split
    · exact h
    · exact HB_hap (HB_tur h)
theorem HB_day {F : eRow} (h : HB F) : HB (dayF F) := by
  have h1 : HB (fu F 10 0) := HB_fu h (by decide) (by decide)
  unfold dayF
  split
  · exact HB_hap (HB_tur h1)
  · exact h1
theorem HB_pas {F : eRow} {ab : Int} (hs : St F) (h : HB F) (h49 : F 49 = 0) : HB (pasF F ab) := by
  have s1 := St_pw1 hs
  have b7 : 0 ≤ pw1 F 7 ∧ pw1 F 7 ≤ 5 := s1.2.2.2.2.2.2.2.2.1
  have h1 : HB (pw1 F) := by
    unfold pw1
    split
    · exact h
    · split
      · exact HB_fu (HB_fu (HB_fu h (by decide) (by decide)) (by decide) (by decide)) (by decide) (by decide)
      · exact HB_fu h (by decide) (by decide)
  have h2 : HB (pl2 (pw1 F)) := by
    unfold pl2
    split
    · split
      · exact HB_lit h1 b7.1 b7.2
      · exact HB_day h1
    · exact h1
  have h3 : HB (pc1 (pl2 (pw1 F)) (pdk (pw1 F)) (nigF (pw1 F))) := HB_fu (HB_fu (HB_fu h2 (by decide) (by decide)) (by decide) (by decide)) (by decide) (by decide)
  unfold pasF
  rw [h49]
  dsimp only
  split
  · exact HB_fu h3 (by decide) (by decide)
  · exact HB_fu h3 (by decide) (by decide)
theorem HB_it {ab : Int} (n : Nat) : ∀ F : eRow, St F → Ct F → F 0 + n ≤ 900000 → HB F → F 49 = 0 → HB (itF ab n F) ∧ itF ab n F 49 = 0 := by
  induction n with
  | zero => exact fun F _ _ _ h h49 => ⟨h, h49⟩
  | succ n ih =>
    intro F hs hc h0 h h49
    obtain ⟨p1, p2, p3, p4⟩ := pas_all (ab := ab) hs hc (by omega)
    exact ih _ p1 p2 (by omega) (HB_pas hs h h49) (by rw [p4 49 (by omega)]; exact h49)
/-- a row that is written out, some ticks, and the row then -/
def Rt (F : eRow) : Prop := St F ∧ Ct F ∧ HB F ∧ F 49 = 0 ∧ F 0 ≤ 99999
theorem Rt_it {ab : Int} {F : eRow} {m : Nat} {l : List Int} (h : Rt F) (hm : m ≤ 200) (e : agr (itF ab m F) l = true) (h0 : l.getD 0 0 ≤ 99999) : itF ab m F = rowL l ∧ Rt (rowL l) := by
  obtain ⟨hs, hc, hb, h49, h9⟩ := h
  obtain ⟨i1, i2⟩ := HB_it (ab := ab) m F hs hc (by omega) hb h49
  obtain ⟨j1, j2, j3⟩ := it_all (ab := ab) m F hs hc (by omega)
  have q : itF ab m F = rowL l := by
    rw [← agr_cu e]
    funext j
    unfold cu
    split
    · rfl
    · exact i1.1 j (by omega)
  rw [q] at i1 i2 j1 j2
  exact ⟨q, j1, j2, i1, i2, h0⟩
theorem it_add {ab : Int} {n : Nat} (m : Nat) : ∀ F : eRow, itF ab (m + n) F = itF ab n (itF ab m F) := by
  induction m with
  | zero =>
    intro F
    rw [Nat.zero_add]
    rfl
  | succ m ih =>
    intro F
    rw [show m + 1 + n = m + n + 1 by omega]
    exact ih (pasF F ab)
theorem drk_add {n : Nat} (m : Nat) : ∀ F : eRow, drkF (m + n) F = drkF m F + drkF n (itF 1 m F) := by
  induction m with
  | zero =>
    intro F
    rw [Nat.zero_add]
    show drkF n F = 0 + drkF n F
    omega
  | succ m ih =>
    intro F
    rw [show m + 1 + n = m + n + 1 by omega]
    show b2i (pdk (pw1 F)) + drkF (m + n) (pasF F 1) = b2i (pdk (pw1 F)) + drkF m (pasF F 1) + drkF n (itF 1 m (pasF F 1))
    rw [ih]
    omega
theorem din_add {n : Nat} (m : Nat) : ∀ (k : Int) (F : eRow), 0 ≤ k → (dinF m k F).1 = -5 → dinF (m + n) k F = dinF n (k + m) (itF 0 m F) := by
  induction m with
  | zero =>
    intro k F _ _
    rw [Nat.zero_add, show k + ((0 : Nat) : Int) = k by omega]
    rfl
  | succ m ih =>
    intro k F h0 h
    rw [show m + 1 + n = m + n + 1 by omega]
    by_cases hd : pdk (pw1 F)
    · exfalso
      have e : dinF (m + 1) k F = (k, pasF F 0) := if_pos hd
      rw [e] at h
      dsimp only at h
      omega
    · have e : dinF (m + 1) k F = dinF m (k + 1) (pasF F 0) := if_neg hd
      rw [e] at h
      have z := ih (k + 1) (pasF F 0) (by omega) h
      rw [show k + 1 + (m : Int) = k + ((m + 1 : Nat) : Int) by omega] at z
      show (if pdk (pw1 F) then (k, pasF F 0) else dinF (m + n) (k + 1) (pasF F 0)) = _
      rw [if_neg hd, z]
      rfl
theorem HB_rowL {l : List Int} (hs : St (rowL l)) (hl : l.length = 111) : HB (rowL l) := by
  have b := St_b hs
  have b80 : 0 ≤ rowL l 80 := hs.2.2.2.2.2.2.2.2.2.2.2.2.2.2.2.2.2.2.2.2.1.1
  refine ⟨fun j hj => ?_, b80, b.2⟩
  unfold rowL
  rw [List.getD_eq_getElem?_getD, List.getElem?_eq_none (by omega)]
  rfl
