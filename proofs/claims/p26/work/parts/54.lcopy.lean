/-! a log and a plan copied -/
def cpG (D : eD) (g o : Nat) : eD := up (up (setA (setA (setA D (g + 1) (D (o + 1))) (g + 2) (D (o + 2))) (g + 3) (D (o + 3))) g 3 (D o 3)) g 4 (D o 4)
def cpP (D : eD) (q o : Nat) : eD := up (setA (setA (setA D (q + 1) (D (o + 1))) (q + 2) (D (o + 2))) (q + 3) (D (o + 3))) q 3 (D o 3)
/-- the plan q against the row -/
def PlE (D : eD) (q : Nat) (F : eRow) (i j : Int) : Prop := D (q + 1) i.toNat = F (50 + 3 * j).toNat ∧ D (q + 2) i.toNat = F (51 + 3 * j).toNat ∧ D (q + 3) i.toNat = F (52 + 3 * j).toNat
def PlR (D : eD) (q : Nat) (F : eRow) : Prop := D q 3 = F 49 ∧ (∀ i, 0 ≤ i → i < F 49 → ∃ j, 0 ≤ j ∧ j < F 49 ∧ PlE D q F i j) ∧ (∀ j, 0 ≤ j → j < F 49 → ∃ i, 0 ≤ i ∧ i < F 49 ∧ PlE D q F i j) ∧ (∀ i i', 0 ≤ i → i < F 49 → 0 ≤ i' → i' < F 49 → D (q + 1) i.toNat = D (q + 1) i'.toNat → i = i')
section SPEC54
variable {S : List Int} {D E : eD} {h : eH} {Q : Option eV → eH → Prop} {v x s p m t lim pat a : Int} {r j n g q b w o : Nat} {F R : eRow} {l0 l1 : eV}
theorem cpG_at : cpG D g o g 3 = D o 3 ∧ cpG D g o g 4 = D o 4 ∧ cpG D g o (g + 1) = D (o + 1) ∧ cpG D g o (g + 2) = D (o + 2) ∧ cpG D g o (g + 3) = D (o + 3) ∧ ∀ K, (K < g ∨ g + 3 < K) → cpG D g o K = D K := by
  unfold cpG
  refine ⟨?_, up_eq, ?_, ?_, ?_, fun K hK => ?_⟩
  · rw [up_ne2 (by decide), up_eq]
  · funext i
    rw [up_ne1 (by omega), up_ne1 (by omega), setA_ne (by omega), setA_ne (by omega), setA_eq]
  · funext i
    rw [up_ne1 (by omega), up_ne1 (by omega), setA_ne (by omega), setA_eq]
  · funext i
    rw [up_ne1 (by omega), up_ne1 (by omega), setA_eq]
  · funext i
    rw [up_ne1 (by omega), up_ne1 (by omega), setA_ne (by omega), setA_ne (by omega), setA_ne (by omega)]
theorem cpP_at : cpP D q o q 3 = D o 3 ∧ cpP D q o (q + 1) = D (o + 1) ∧ cpP D q o (q + 2) = D (o + 2) ∧ cpP D q o (q + 3) = D (o + 3) ∧ ∀ K, (K < q ∨ q + 3 < K) → cpP D q o K = D K := by
  unfold cpP
  refine ⟨up_eq, ?_, ?_, ?_, fun K hK => ?_⟩
  · funext i
    rw [up_ne1 (by omega), setA_ne (by omega), setA_ne (by omega), setA_eq]
  · funext i
    rw [up_ne1 (by omega), setA_ne (by omega), setA_eq]
  · funext i
    rw [up_ne1 (by omega), setA_eq]
  · funext i
    rw [up_ne1 (by omega), setA_ne (by omega), setA_ne (by omega), setA_ne (by omega)]
theorem LgR_cp (hR : LgR D o F) : LgR (cpG D g o) g F := by
  obtain ⟨a1, a2, a3, a4, a5, _⟩ := cpG_at (D := D) (g := g) (o := o)
  unfold LgR
  rw [a1, a2, a3, a4, a5]
  exact hR
theorem PlR_cp (hR : PlR D o F) : PlR (cpP D q o) q F := by
  obtain ⟨a1, a2, a3, a4, _⟩ := cpP_at (D := D) (q := q) (o := o)
  unfold PlR PlE
  rw [a1, a2, a3, a4]
  exact hR
theorem c16 (hg : tg g = 1) (ho : tg o = 1) (hS : S.length ≤ 2048) (hgo : g + 3 < o ∨ o + 3 < g) : wp 16 0 [.inr (.inl g), .inr (.inl o)] [] (hp S D) Q ↔ Q none (hp S (cpG D g o)) := by
  have h0 := tg_ne0 hg (by decide)
  have h0' := tg_ne0 ho (by decide)
  obtain ⟨h8, t1, t2, t3, l1', l2', l3'⟩ := lg_tg0 g (tg_lt (by omega)) hg
  obtain ⟨k8, u1, u2, u3, m1', m2', m3'⟩ := lg_tg0 o (tg_lt (by omega)) ho
  have l1 : ln S (o + 1) = ln S (g + 1) := by rw [ln_hi (by omega), ln_hi (by omega), l1', m1']
  have l2 : ln S (o + 2) = ln S (g + 2) := by rw [ln_hi (by omega), ln_hi (by omega), l2', m2']
  have l3 : ln S (o + 3) = ln S (g + 3) := by rw [ln_hi (by omega), ln_hi (by omega), l3', m3']
  unfold cpG
  simp (disch := first | assumption | omega | decide | exact b2i_01 _ | (unfold lx; omega)) only [s16_0, s16_1, s16_4, s16_5, s16_8, s16_11, s16_12, s16_15, s16_16, s16_19, s16_22, s16_23, s16_26, s16_27, s16_30, s16_33, s16_34, s16_35, s16_38, s16_41, s16_42, s16_43, s16_46, s16_49, kont_some, kont_none, w32_of, if_true, if_false, b2i_eq0, ite_not, up_eq, up_ne2, up_ne1, tdv, tmd, c53, setA_ne]
theorem c36 (hq : tg q = 4) (ho : tg o = 4) (hS : S.length ≤ 2048) (hgo : q + 3 < o ∨ o + 3 < q) : wp 36 0 [.inr (.inl q), .inr (.inl o)] [] (hp S D) Q ↔ Q none (hp S (cpP D q o)) := by
  have h0 := tg_ne0 hq (by decide)
  have h0' := tg_ne0 ho (by decide)
  obtain ⟨h8, t1, t2, t3, l1', l2', l3'⟩ := pl_tg0 q (tg_lt (by omega)) hq
  obtain ⟨k8, u1, u2, u3, m1', m2', m3'⟩ := pl_tg0 o (tg_lt (by omega)) ho
  have l1 : ln S (o + 1) = ln S (q + 1) := by rw [ln_hi (by omega), ln_hi (by omega), l1', m1']
  have l2 : ln S (o + 2) = ln S (q + 2) := by rw [ln_hi (by omega), ln_hi (by omega), l2', m2']
  have l3 : ln S (o + 3) = ln S (q + 3) := by rw [ln_hi (by omega), ln_hi (by omega), l3', m3']
  unfold cpP
  simp (disch := first | assumption | omega | decide | exact b2i_01 _ | (unfold lx; omega)) only [s36_0, s36_1, s36_4, s36_5, s36_8, s36_11, s36_12, s36_15, s36_16, s36_19, s36_22, s36_23, s36_26, s36_27, s36_30, s36_33, s36_34, s36_35, s36_38, s36_41, kont_some, kont_none, w32_of, if_true, if_false, b2i_eq0, ite_not, up_eq, up_ne2, up_ne1, tdv, tmd, c53, setA_ne]
end SPEC54
