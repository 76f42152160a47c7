/-! the two objects agree when they are made -/
theorem Dz_lm : ∀ s : Nat, s < 6 → (Dz 159 (lx s 0) = -5 ∧ Dz 159 (lx s 1) = 0 ∧ Dz 159 (lx s 2) = 0 ∧ Dz 159 (lx s 3) = 0 ∧ Dz 159 (lx s 4) = 0) := by decide +kernel
theorem Dz_St : St (Dz 159) := by
  refine ⟨fun s h1 h2 => ?_, by decide +kernel, by decide +kernel, by decide +kernel, by decide +kernel, by decide +kernel, by decide +kernel, by decide +kernel, by decide +kernel, by decide +kernel, by decide +kernel, by decide +kernel, by decide +kernel, by decide +kernel, by decide +kernel, by decide +kernel, by decide +kernel, by decide +kernel, by decide +kernel, by decide +kernel, by decide +kernel, fun k h1 h2 => ?_⟩
  · have z := Dz_lm s.toNat (by omega)
    rw [show ((s.toNat : Nat) : Int) = s by omega] at z
    obtain ⟨z0, z1, z2, z3, z4⟩ := z
    unfold LmB
    rw [z0, z1, z2, z3, z4]
    decide
  · have : Dz 159 49 = 0 := by decide +kernel
    omega
theorem Dz_Sok : Sok (Dz 159) := by
  refine ⟨Dz_St, by unfold Ct; decide +kernel, ⟨by decide +kernel, fun i j h1 h2 h3 => ?_⟩, by decide +kernel⟩
  have : Dz 159 49 = 0 := by decide +kernel
  omega
theorem Dz_NoA : NoA Dz := by
  intro b hb
  have h := tg0_cases b (tg_lt (by omega)) hb
  unfold NoL
  rcases h with rfl | rfl | rfl | rfl | rfl | rfl | rfl <;> decide +kernel
theorem Dz_Rel : Rel Dz 9 (Dz 159) := by
  have e49 : Dz 159 49 = 0 := by decide +kernel
  have e80 : Dz 159 80 = 0 := by decide +kernel
  refine ⟨by decide +kernel, by decide +kernel, by decide +kernel, ⟨by decide +kernel, fun s h1 h2 => Or.inl ?_, by decide +kernel⟩, ⟨by decide +kernel, fun i h1 h2 => by omega, fun i h1 h2 => by omega, fun i j h1 h2 => by omega⟩, ⟨by decide +kernel, by decide +kernel, fun i h1 h2 => by omega⟩⟩
  have z := Dz_lm s.toNat (by omega)
  rw [show ((s.toNat : Nat) : Int) = s by omega] at z
  rw [z.1]
  rcases (show s = 0 ∨ s = 1 ∨ s = 2 ∨ s = 3 ∨ s = 4 ∨ s = 5 by omega) with rfl | rfl | rfl | rfl | rfl | rfl <;> decide +kernel
theorem Dz_Wd : Wd Dz := by
  have e1 : Dz 158 3 = 0 := by decide +kernel
  have e2 : Dz 158 5 = 0 := by decide +kernel
  have e3 : Dz 158 7 = 0 := by decide +kernel
  unfold Wd
  rw [e1, e2, e3]
  refine ⟨⟨Dz_Rel, ⟨by decide +kernel, by decide +kernel, by decide, fun i h1 h2 => by omega⟩, ⟨by decide +kernel, fun z => absurd z (by decide)⟩, ⟨by decide +kernel, fun i hi => by omega⟩, Dz_NoA⟩, ⟨Dz_Sok, ⟨by decide, fun i h1 h2 => by omega⟩, Or.inl rfl, ⟨by decide, fun j => ?_⟩⟩⟩
  have e : Dz 163 j = 0 := rfl
  rw [e]
  decide
