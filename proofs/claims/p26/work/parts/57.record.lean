/-! a state recorded, a state taken back -/
def slc (P : eRow) (i : Int) : eRow := fun j => P ((111 * i).toNat + j)
def NoA (D : eD) : Prop := ∀ b, tg b = 0 → NoL D (b + 3)
/-- the class's history against n slices of P -/
def HiR (D : eD) (P : eRow) (n : Int) : Prop := D 70 1 = n ∧ (0 ≤ D 70 2 ∧ D 70 2 ≤ 3) ∧ (0 ≤ n ∧ n ≤ 4) ∧ ∀ i, 0 ≤ i → i < n → Rel D (rgC (D 70 2 + i)) (slc P i)
theorem Rel_cg {D E : eD} {b : Nat} {F : eRow} (h : Rel D b F) (e : ∀ K, b ≤ K → K ≤ b + 19 → E K = D K) : Rel E b F := by
  obtain ⟨h1, h2, h3, h4, h5, h6⟩ := h
  refine ⟨?_, ?_, ?_, WhR_cg h4 (fun K g1 g2 => e K (by omega) (by omega)), PlR_cg h5 (fun K g1 g2 => e K (by omega) (by omega)), LgR_cg h6 (fun K g1 g2 => e K (by omega) (by omega))⟩
  · rw [e b (by omega) (by omega)]; exact h1
  · rw [e (b + 1) (by omega) (by omega)]; exact h2
  · rw [e (b + 2) (by omega) (by omega)]; exact h3
section SPEC57
variable {S : List Int} {D E : eD} {h : eH} {Q : Option eV → eH → Prop} {F P : eRow} {n : Int}
theorem c20a (hS : S.length ≤ 2048) (hn : D 70 1 = n) (h1 : 0 ≤ n ∧ n ≤ 3) (h2 : 0 ≤ D 70 2 ∧ D 70 2 ≤ 3) (hR : Rel D 9 F) (hF : St F) (hN : NoA D) {l2 : eV} :
    ∃ D1 : eD, Rel D1 (rgC (D 70 2 + n)) F ∧ (∀ K, (K < rgC (D 70 2 + n) ∨ rgC (D 70 2 + n) + 19 < K) → K ≠ 70 → D1 K = D K) ∧ (D1 70 1 = n + 1 ∧ ∀ j, j ≠ 1 → D1 70 j = D 70 j) ∧ ∀ Q, (wp 20 30 [.inr (.inl 70), .inr (.inl 9), .inr (.inl 0)] [] (hp S D) Q ↔ Q none (hp S D1)) := by
  have t1 : tg 70 = 2 := rfl
  obtain ⟨rt, r1, r2⟩ := @rg_tg (D 70 2 + n)
  have r0 : rgC (D 70 2 + n) ≠ 0 := by omega
  have t9 : tg 9 = 0 := rfl
  obtain ⟨D1, i1, i2, i3⟩ := c1 (S := S) (D := D) (F := F) rt t9 hS (by omega) hR hF (hN _ rt)
  have e70 : D1 70 = D 70 := i2 70 (by omega)
  have c22' := fun Q' => c22 (S := S) (D := D) (Q := Q') hS (by rw [hn]; omega) h2
  rw [hn] at c22'
  refine ⟨up D1 70 1 (n + 1), Rel_cg i1 (fun K g1 g2 => by funext j; exact up_ne1 (by omega)), fun K hK h70 => ?_, ⟨up_eq, fun j hj => ?_⟩, fun Q => ?_⟩
  · rw [← i2 K hK]
    funext j
    exact up_ne1 h70
  · rw [up_ne2 hj, e70]
  · simp (disch := first | assumption | omega | decide | exact b2i_01 _ | (unfold lx; omega)) only [s20_30, s20_31, s20_34, s20_35, s20_36, s20_39, s20_40, s20_41, s20_44, s20_45, s20_46, s20_49, s20_50, s20_51, s20_54, kont_some, kont_none, w32_of, if_true, if_false, tdv, tmd, setA_eq, up_setA, rd_hi, Int.reduceToNat, if_neg (show ¬ (1 : Int) = 0 by decide), c22', i3, e70, hn]
end SPEC57
