/-! a state recorded, whole; a state taken back -/
theorem tg0_cases : ∀ b, b < 158 → tg b = 0 → b = 9 ∨ b = 29 ∨ b = 49 ∨ b = 72 ∨ b = 92 ∨ b = 112 ∨ b = 132 := by decide +kernel
theorem NoA_fr {D E : eD} {b : Nat} {F : eRow} (h : NoA D) (hb : tg b = 0) (hR : Rel E b F) (e : ∀ K, (K < b ∨ b + 19 < K) → K ≠ 70 → E K = D K) : NoA E := by
  intro c hc
  have c1 := tg0_cases b (tg_lt (by omega)) hb
  have c2 := tg0_cases c (tg_lt (by omega)) hc
  by_cases q : c = b
  · rw [q]
    exact hR.2.2.2.1.2.2
  · have z := h c hc
    unfold NoL at z ⊢
    rw [e (c + 3 + 8) (by omega) (by omega)]
    exact z
theorem rg_far {i j : Int} (h : ¬ i % 4 = j % 4) : rgC i + 19 < rgC j ∨ rgC j + 19 < rgC i := by
  unfold rgC
  omega
theorem St_b {F : eRow} (h : St F) : F 49 ≤ 10 ∧ F 80 ≤ 10 := by
  obtain ⟨a0, a1, a2, a3, a4, a5, a6, a7, a8, a9, a10, a11, a12, a13, a14, a15, a16, a17, a18, a19, a20, a21⟩ := h
  exact ⟨a19.2, a20.2⟩
section SPEC61
variable {S : List Int} {D E : eD} {h : eH} {Q : Option eV → eH → Prop} {F P : eRow} {n : Int}
theorem c20 (hS : S.length ≤ 2048) (hH : HiR D P n) (hP : ∀ i, 0 ≤ i → i < n → St (slc P i)) (hR : Rel D 9 F) (hF : St F) (hN : NoA D) :
    ∃ D1 : eD, HiR D1 (recP P F n) (if n = 4 then 4 else n + 1) ∧ (∀ K, (K < 70 ∨ K = 71 ∨ 151 < K) → D1 K = D K) ∧ NoA D1 ∧ ∀ Q, (wp 20 0 [.inr (.inl 70), .inr (.inl 9), .inr (.inl 0)] [] (hp S D) Q ↔ Q none (hp S D1)) := by
  obtain ⟨h1, h2, h3, hB⟩ := hH
  by_cases h4 : n = 4
  · subst h4
    rw [if_pos rfl]
    have g : ∀ K, K ≠ 70 → up (up D 70 2 ((D 70 2 + 1) % 4)) 70 1 3 K = D K := fun K hK => by funext j; rw [up_ne1 hK, up_ne1 hK]
    have g1 : up (up D 70 2 ((D 70 2 + 1) % 4)) 70 1 3 70 1 = 3 := up_eq
    have g2 : up (up D 70 2 ((D 70 2 + 1) % 4)) 70 1 3 70 2 = (D 70 2 + 1) % 4 := by rw [up_ne2 (by decide), up_eq]
    generalize hD0 : up (up D 70 2 ((D 70 2 + 1) % 4)) 70 1 3 = D0 at *
    have hN0 : NoA D0 := fun b hb => by
      have := tg0_cases b (tg_lt (by omega)) hb
      have z := hN b hb
      unfold NoL at z ⊢
      rw [g _ (by omega)]; exact z
    obtain ⟨D1, i1, i2, i3, i4⟩ := c20a (S := S) (D := D0) (n := 3) (F := F) (l2 := .inr (.inl 0)) hS g1 (by decide) (by omega) (Rel_cg hR (fun K _ _ => g K (by omega))) hF hN0
    obtain ⟨rt, r1, r2⟩ := @rg_tg (D0 70 2 + 3)
    have e2 : D1 70 2 = (D 70 2 + 1) % 4 := by rw [i3.2 2 (by decide), g2]
    refine ⟨D1, ⟨by rw [i3.1]; rfl, by omega, by decide, fun i q0 q4 => ?_⟩, fun K hK => ?_, NoA_fr hN0 rt i1 i2, fun Q => ?_⟩
    · rw [e2]
      by_cases q : i = 3
      · subst q
        have z := Rel_row i1 (St_b hF).1 (St_b hF).2 (slc_rec4 (P := P) (F := F)).1
        rw [g2] at z
        exact z
      · have z := hB (i + 1) (by omega) (by omega)
        have b := St_b (hP (i + 1) (by omega) (by omega))
        have far : rgC (D 70 2 + (i + 1)) + 19 < rgC (D0 70 2 + 3) ∨ rgC (D0 70 2 + 3) + 19 < rgC (D 70 2 + (i + 1)) := rg_far (by omega)
        obtain ⟨_, v1, v2⟩ := @rg_tg (D 70 2 + (i + 1))
        have e : rgC ((D 70 2 + 1) % 4 + i) = rgC (D 70 2 + (i + 1)) := by unfold rgC; omega
        rw [e]
        exact Rel_row (Rel_cg z (fun K y1 y2 => (i2 K (by omega) (by omega)).trans (g K (by omega)))) b.1 b.2 (fun j hj => (slc_rec4 (P := P) (F := F)).2 i (by omega) (by omega) j hj)
    · rw [i2 K (by omega) (by omega), g K (by omega)]
    · rw [c20c h1 h2, hD0, i4]
  · rw [if_neg h4]
    obtain ⟨D1, i1, i2, i3, i4⟩ := c20a (S := S) (D := D) (n := n) (F := F) (l2 := .inr (.inl 0)) hS h1 (by omega) h2 hR hF hN
    obtain ⟨rt, r1, r2⟩ := @rg_tg (D 70 2 + n)
    have e2 : D1 70 2 = D 70 2 := i3.2 2 (by decide)
    refine ⟨D1, ⟨i3.1, by omega, by omega, fun i q0 q4 => ?_⟩, fun K hK => i2 K (by omega) (by omega), NoA_fr hN rt i1 i2, fun Q => ?_⟩
    · rw [e2]
      by_cases q : i = n
      · subst q
        exact Rel_row i1 (St_b hF).1 (St_b hF).2 (slc_rec (P := P) (F := F) (by omega) (by omega)).1
      · have z := hB i q0 (by omega)
        have b := St_b (hP i q0 (by omega))
        have far : rgC (D 70 2 + i) + 19 < rgC (D 70 2 + n) ∨ rgC (D 70 2 + n) + 19 < rgC (D 70 2 + i) := rg_far (by omega)
        obtain ⟨_, v1, v2⟩ := @rg_tg (D 70 2 + i)
        exact Rel_row (Rel_cg z (fun K y1 y2 => i2 K (by omega) (by omega))) b.1 b.2 (fun j hj => (slc_rec (P := P) (F := F) (by omega) (by omega)).2 i q0 (by omega) j hj)
    · rw [c20b (by omega), i4]
theorem c21 (hS : S.length ≤ 2048) (hH : HiR D P n) (hn : 0 < n) (hP : St (slc P (n - 1))) (hN : NoA D) :
    ∃ D1 : eD, Rel D1 9 (slc P (n - 1)) ∧ HiR D1 P (n - 1) ∧ (∀ K, (K < 9 ∨ 28 < K) → K ≠ 70 → D1 K = D K) ∧ NoA D1 ∧ ∀ Q, (wp 21 0 [.inr (.inl 70), .inr (.inl 9), .inr (.inl 0)] [] (hp S D) Q ↔ Q none (hp S D1)) := by
  obtain ⟨h1, h2, h3, hB⟩ := hH
  have t1 : tg 70 = 2 := rfl
  have t9 : tg 9 = 0 := rfl
  have g : ∀ K, K ≠ 70 → up D 70 1 (n - 1) K = D K := fun K hK => by funext j; rw [up_ne1 hK]
  have g1 : up D 70 1 (n - 1) 70 1 = n - 1 := up_eq
  have g2 : up D 70 1 (n - 1) 70 2 = D 70 2 := by rw [up_ne2 (by decide)]
  generalize hD0 : up D 70 1 (n - 1) = D0 at *
  have hN0 : NoA D0 := fun b hb => by
    have := tg0_cases b (tg_lt (by omega)) hb
    have z := hN b hb
    unfold NoL at z ⊢
    rw [g _ (by omega)]; exact z
  obtain ⟨rt, r1, r2⟩ := @rg_tg (D 70 2 + (n - 1))
  have r0 : rgC (D 70 2 + (n - 1)) ≠ 0 := by omega
  have c22' := fun Q' => c22 (S := S) (D := D0) (Q := Q') hS (by rw [g1]; omega) (by rw [g2]; exact h2)
  rw [g1, g2] at c22'
  obtain ⟨D1, i1, i2, i3⟩ := c1 (S := S) (D := D0) (F := slc P (n - 1)) t9 rt hS (by omega) (Rel_cg (hB (n - 1) (by omega) (by omega)) (fun K y1 y2 => g K (by omega))) hP (hN0 _ t9)
  refine ⟨D1, i1, ⟨by rw [i2 70 (by omega)]; exact g1, by rw [i2 70 (by omega), g2]; exact h2, by omega, fun i q0 q1 => ?_⟩, fun K hK h70 => (i2 K hK).trans (g K h70), NoA_fr hN0 t9 i1 (fun K hK _ => i2 K hK), fun Q => ?_⟩
  · obtain ⟨_, v1, v2⟩ := @rg_tg (D 70 2 + i)
    rw [i2 70 (by omega), g2]
    exact Rel_cg (hB i q0 (by omega)) (fun K y1 y2 => (i2 K (by omega)).trans (g K (by omega)))
  · simp (disch := first | assumption | omega | decide | exact b2i_01 _ | (unfold lx; omega)) only [s21_0, s21_1, s21_2, s21_5, s21_6, s21_7, s21_10, s21_11, s21_14, s21_15, s21_16, s21_19, s21_20, s21_21, s21_24, kont_some, kont_none, w32_of, if_true, if_false, tdv, tmd, setA_eq, up_setA, rd_hi, Int.reduceToNat, if_neg (show ¬ (1 : Int) = 0 by decide), h1, hD0, c22', i3]
end SPEC61
