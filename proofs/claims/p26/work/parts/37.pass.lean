/-! the check's own ticks: many, and ahead -/
def drkF : Nat → eRow → Int
  | 0, _ => 0
  | n + 1, F => b2i (pdk (pw1 F)) + drkF n (pasF F 1)
def itF (ab : Int) : Nat → eRow → eRow
  | 0, F => F
  | n + 1, F => itF ab n (pasF F ab)
theorem it_all {ab : Int} (n : Nat) : ∀ F : eRow, St F → Ct F → F 0 + n ≤ 900000 → St (itF ab n F) ∧ Ct (itF ab n F) ∧ itF ab n F 0 = F 0 + n := by
  induction n with
  | zero => exact fun F h1 h2 _ => ⟨h1, h2, by show F 0 = _; omega⟩
  | succ n ih =>
    intro F h1 h2 h3
    obtain ⟨p1, p2, p3, _⟩ := pas_all (ab := ab) h1 h2 (by omega)
    obtain ⟨i1, i2, i3⟩ := ih (pasF F ab) p1 p2 (by omega)
    exact ⟨i1, i2, by show itF ab n (pasF F ab) 0 = _; omega⟩
theorem drk_b (n : Nat) : ∀ F : eRow, 0 ≤ drkF n F ∧ drkF n F ≤ n := by
  induction n with
  | zero => exact fun F => ⟨Int.le_refl _, Int.le_refl _⟩
  | succ n ih =>
    intro F
    have := ih (pasF F 1)
    have hb := b2i_b (c := pdk (pw1 F))
    unfold drkF
    omega
def m141 (D : eD) (v : Int) : Int × eD :=
  if 1 ≤ v ∧ v ≤ 200 then (if 99999 < D 159 0 + v then (-3, D) else (drkF v.toNat (D 159), setA (recD D) 159 (itF 1 v.toNat (D 159)))) else (-2, D)
/-- how many ticks until it is dark, of n from k on, and the row then -/
def dinF : Nat → Int → eRow → Int × eRow
  | 0, _, F => (-5, F)
  | n + 1, k, F => if pdk (pw1 F) then (k, pasF F 0) else dinF n (k + 1) (pasF F 0)
/-- how many ticks until it is tired -/
def tinF (s : Int) : Nat → Int → eRow → Int × eRow
  | 0, k, F => (k, F)
  | n + 1, k, F => if F (lx s 3) = 0 ∧ ¬ outF F s then tinF s n (k + 1) (brnF F s) else (k, F)
theorem brn_lm {F : eRow} {s : Int} {j : Nat} (h1 : 0 ≤ s) (h2 : s ≤ 5) (hs : St F) (hw : F (lx s 2) ≤ 1065) (h47 : F 47 + 2 ≤ 4000000) (h : 10 < j ∧ j < 41) (n3 : j ≠ lx s 3) (n4 : j ≠ lx s 4) : brnF F s j = brn1 F s j := by
  have q2 := lx_b (p := 2) h1 h2 (by omega) (by omega)
  have q3 := lx_b (p := 3) h1 h2 (by omega) (by omega)
  have q4 := lx_b (p := 4) h1 h2 (by omega) (by omega)
  obtain ⟨s1, w1⟩ := St_brn1 hs h1 h2 hw
  have s2 := St_brn2 s1 h1 h2 w1
  have e2 : brn2 (brn1 F s) s j = brn1 F s j := by conv => lhs; unfold brn2
                                                   rw [fu_ne n4]
  have f47 : brn2 (brn1 F s) s 47 = F 47 := by unfold brn2 brn1; rw [fu_ne (by omega), fu_ne (by omega)]
  have s3 := St_brn3 s2 h1 h2 (by omega)
  have z2 : 0 ≤ brn2 (brn1 F s) s 80 := s2.2.2.2.2.2.2.2.2.2.2.2.2.2.2.2.2.2.2.2.2.1.1
  have z3 : 0 ≤ brn3 (brn2 (brn1 F s) s) s 80 := s3.2.2.2.2.2.2.2.2.2.2.2.2.2.2.2.2.2.2.2.2.1.1
  have e3 : brn3 (brn2 (brn1 F s) s) s j = brn1 F s j := by
    rw [← e2]
    conv => lhs; unfold brn3
    split
    · rw [hapF_lo (by rw [fu_ne (by omega)]; exact z2) (by omega), fu_ne n3]
    · rfl
  unfold brnF
  rw [← e3]
  conv => lhs; unfold brn4
  split
  · rw [fu_ne (by omega), hapF_lo (by rw [fu_ne (by decide)]; exact z3) (by omega), fu_ne (by omega)]
  · rw [fu_ne (by omega)]
theorem brn_lf {F : eRow} {s : Int} (h1 : 0 ≤ s) (h2 : s ≤ 5) (hs : St F) (hw : F (lx s 2) ≤ 1065) (h47 : F 47 + 2 ≤ 4000000) : brnF F s (lx s 0) = F (lx s 0) ∧ brnF F s (lx s 1) = F (lx s 1) ∧ brnF F s (lx s 2) = F (lx s 2) + 1 ∧ lfF (brnF F s) s = lfF F s := by
  have q0 := lx_b (p := 0) h1 h2 (by omega) (by omega)
  have q1 := lx_b (p := 1) h1 h2 (by omega) (by omega)
  have q2 := lx_b (p := 2) h1 h2 (by omega) (by omega)
  have e0 : brnF F s (lx s 0) = F (lx s 0) := by
    rw [brn_lm h1 h2 hs hw h47 (by omega) (by unfold lx; omega) (by unfold lx; omega)]
    exact fu_ne (by unfold lx; omega)
  have e1 : brnF F s (lx s 1) = F (lx s 1) := by
    rw [brn_lm h1 h2 hs hw h47 (by omega) (by unfold lx; omega) (by unfold lx; omega)]
    exact fu_ne (by unfold lx; omega)
  refine ⟨e0, e1, ?_, ?_⟩
  · rw [brn_lm h1 h2 hs hw h47 (by omega) (by unfold lx; omega) (by unfold lx; omega)]
    exact fu_eq
  · unfold lfF
    rw [e0, e1]
def m154 (D : eD) (s : Int) : Int × eD :=
  if 0 ≤ s ∧ s ≤ 5 then (if goF (D 159) s 0 then ((if (tinF s 1100 0 (D 159)).2 (lx s 3) = 1 then (tinF s 1100 0 (D 159)).1 else -5), setA D 160 (tinF s 1100 0 (D 159)).2) else (-4, D)) else (-1, D)
section SPEC37
variable {S : List Int} {D : eD} {h : eH} {Q : Option eV → eH → Prop} {v w x s p t a b : Int} {r : Nat} {F : eRow}
theorem cpA_111 {a b : Nat} (ha : tg a = 100) (hl : ln S a = 111) (h8 : 8 ≤ a) : hp S (setA D a (cpA (D a) (D b) 0 0 111)) = hp S (setA D a (D b)) := by
  refine hp_ext (fun k j hk => ?_)
  by_cases h1 : k = a
  · subst h1
    rw [setA_eq, setA_eq]
    exact cpA_at (by have := hk.2.2.1; omega)
  · rw [setA_ne h1, setA_ne h1]
end SPEC37
