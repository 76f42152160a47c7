/-! the class's Beacon: a boat -/
section SPEC65
variable {S : List Int} {D E : eD} {h : eH} {Q : Option eV → eH → Prop} {F G : eRow} {b q : Nat} {s t v : Int} {l0 l1 : eV}
theorem c12k (hb : tg b = 0) (hS : S.length ≤ 2048) (hv : v = 0 ∨ v = 1) {k : Int} (k0 : 0 ≤ k) (k6 : k < 6) {O B : Prop} [Decidable O] [Decidable B] (hO : (D (lw (b + 3) k) 2 ≤ D (lw (b + 3) k) 3 ∨ (v = 1 ∧ ¬ D (lw (b + 3) k) 5 = 0)) ↔ O) (hB : (¬ D (b + 3) 5 = 0 ∧ D (b + 3) 2 = k) ↔ B) (x3 x4 : eV) :
    wp 12 20 [.inr (.inl b), .inl v, .inl k, x3, x4] [] (hp S D) Q ↔ wp 12 20 [.inr (.inl b), .inl v, .inl (k + 1), .inr (.inl (lw (b + 3) k)), .inl (b2i O)] [] (hp S (if O ∧ ¬ B then up D (lw (b + 3) k) 0 (-1) else D)) Q := by
  have h0 := tg_ne0 hb (by decide)
  obtain ⟨g8, g1, g2, g3, g12, g16⟩ := be_tg0 b (tg_lt (by omega)) hb
  have t3 : tg (lw (b + 3) k) = 3 := lw_tg g3
  have tn := tg_ne0 t3 (by decide)
  have fin : ∀ Q', (wp 12 60 [.inr (.inl b), .inl v, .inl k, .inr (.inl (lw (b + 3) k)), .inl (b2i O)] [] (hp S D) Q' ↔ wp 12 20 [.inr (.inl b), .inl v, .inl (k + 1), .inr (.inl (lw (b + 3) k)), .inl (b2i O)] [] (hp S (if O ∧ ¬ B then up D (lw (b + 3) k) 0 (-1) else D)) Q') := by
    intro Q'
    by_cases o : O
    · by_cases c : B
      · rw [if_neg (fun z => z.2 c), b2i_t o]
        have c' := hB.mpr c
        simp (disch := first | assumption | omega | decide | exact b2i_01 _ | (unfold lx; omega)) only [s12_60, s12_62, s12_65, s12_66, s12_69, s12_70, s12_73, s12_76, s12_77, s12_80, s12_83, kont_some, kont_none, w32_of, if_true, if_false, tdv, tmd, setA_eq, up_setA, rd_hi, Int.reduceToNat, if_neg (show ¬ (1 : Int) = 0 by decide), c57, b2i_t c']
      · rw [if_pos ⟨o, c⟩, b2i_t o]
        have c' := fun z => c (hB.mp z)
        simp (disch := first | assumption | omega | decide | exact b2i_01 _ | (unfold lx; omega)) only [s12_60, s12_62, s12_65, s12_66, s12_69, s12_70, s12_73, s12_76, s12_77, s12_80, s12_83, kont_some, kont_none, w32_of, if_true, if_false, tdv, tmd, setA_eq, up_setA, rd_hi, Int.reduceToNat, if_neg (show ¬ (1 : Int) = 0 by decide), c57, b2i_f c', c25]
    · rw [if_neg (fun z => o z.1), b2i_f o]
      simp (disch := first | assumption | omega | decide | exact b2i_01 _ | (unfold lx; omega)) only [s12_60, s12_62, s12_65, s12_66, s12_69, s12_70, s12_73, s12_76, s12_77, s12_80, s12_83, kont_some, kont_none, w32_of, if_true, if_false, tdv, tmd, setA_eq, up_setA, rd_hi, Int.reduceToNat, if_neg (show ¬ (1 : Int) = 0 by decide)]
  rw [← fin, s12_20]
  by_cases h1 : D (lw (b + 3) k) 2 ≤ D (lw (b + 3) k) 3
  · have o : O := hO.mp (Or.inl h1)
    rw [b2i_t o]
    simp (disch := first | assumption | omega | decide | exact b2i_01 _ | (unfold lx; omega)) only [s12_21, s12_23, s12_26, s12_27, s12_30, s12_31, s12_34, s12_35, s12_36, s12_39, s12_42, s12_43, s12_46, s12_47, s12_50, s12_53, s12_54, s12_57, s12_58, kont_some, kont_none, w32_of, if_true, if_false, tdv, tmd, setA_eq, up_setA, rd_hi, Int.reduceToNat, if_neg (show ¬ (1 : Int) = 0 by decide), if_pos k6, c56, c28, b2i_t h1]
  · rcases hv with rfl | rfl
    · have o : ¬ O := fun z => (hO.mpr z).elim h1 (fun y => absurd y.1 (by decide))
      rw [b2i_f o]
      simp (disch := first | assumption | omega | decide | exact b2i_01 _ | (unfold lx; omega)) only [s12_21, s12_23, s12_26, s12_27, s12_30, s12_31, s12_34, s12_35, s12_36, s12_39, s12_42, s12_43, s12_46, s12_47, s12_50, s12_53, s12_54, s12_57, s12_58, kont_some, kont_none, w32_of, if_true, if_false, tdv, tmd, setA_eq, up_setA, rd_hi, Int.reduceToNat, if_neg (show ¬ (1 : Int) = 0 by decide), if_pos k6, c56, c28, b2i_f h1]
    · by_cases h2 : D (lw (b + 3) k) 5 = 0
      · have o : ¬ O := fun z => (hO.mpr z).elim h1 (fun y => y.2 h2)
        rw [b2i_f o]
        simp (disch := first | assumption | omega | decide | exact b2i_01 _ | (unfold lx; omega)) only [s12_21, s12_23, s12_26, s12_27, s12_30, s12_31, s12_34, s12_35, s12_36, s12_39, s12_42, s12_43, s12_46, s12_47, s12_50, s12_53, s12_54, s12_57, s12_58, kont_some, kont_none, w32_of, if_true, if_false, tdv, tmd, setA_eq, up_setA, rd_hi, Int.reduceToNat, if_neg (show ¬ (1 : Int) = 0 by decide), if_pos k6, c56, c28, b2i_f h1, if_pos h2]
      · have o : O := hO.mp (Or.inr ⟨rfl, h2⟩)
        rw [b2i_t o]
        simp (disch := first | assumption | omega | decide | exact b2i_01 _ | (unfold lx; omega)) only [s12_21, s12_23, s12_26, s12_27, s12_30, s12_31, s12_34, s12_35, s12_36, s12_39, s12_42, s12_43, s12_46, s12_47, s12_50, s12_53, s12_54, s12_57, s12_58, kont_some, kont_none, w32_of, if_true, if_false, tdv, tmd, setA_eq, up_setA, rd_hi, Int.reduceToNat, if_neg (show ¬ (1 : Int) = 0 by decide), if_pos k6, c56, c28, b2i_f h1, if_neg h2]
theorem c12a (hb : tg b = 0) (hS : S.length ≤ 2048) (n : Nat) : ∀ (k : Int) (D : eD) (F : eRow), k = 6 - n → n ≤ 6 → Rel D b F → St F → v = b2i (F 6 = 1) →
    ∃ D1 : eD, Rel D1 b (tkF n k F) ∧ (∀ K, (K < b ∨ b + 19 < K) → D1 K = D K) ∧ ∀ Q x3 x4, (wp 12 20 [.inr (.inl b), .inl v, .inl k, x3, x4] [] (hp S D) Q ↔ Q none (hp S D1)) := by
  have h0 := tg_ne0 hb (by decide)
  induction n with
  | zero =>
    intro k D F hk hn hR hF hv
    refine ⟨D, hR, fun _ _ => rfl, fun Q x3 x4 => ?_⟩
    have h1 : ¬ k < 6 := by omega
    rw [s12_20]
    simp (disch := first | assumption | omega | decide | exact b2i_01 _ | (unfold lx; omega)) only [s12_21, s12_23, s12_86, kont_some, kont_none, w32_of, if_true, if_false, tdv, tmd, setA_eq, up_setA, rd_hi, Int.reduceToNat, if_neg (show ¬ (1 : Int) = 0 by decide), if_neg h1]
  | succ n ih =>
    intro k D F hk hn hR hF hv
    have k0 : 0 ≤ k := by omega
    have k5 : k ≤ 5 := by omega
    have k6 : k < 6 := by omega
    have hL := hR.2.2.2.1.2.1 k k0 k5
    have hB := hF.1 k k0 k5
    obtain ⟨w2, w3, w4, w5⟩ := hR.2.2.2.1.1
    have f10 := hF.2.2.2.2.2.2.2.2.2.2.1
    have z := lw_in (w := b + 3) k0 k5
    have q0 := lx_b (p := 0) k0 k5 (by omega) (by omega)
    have hbb : (¬ D (b + 3) 5 = 0 ∧ D (b + 3) 2 = k) ↔ (F 10 = 1 ∧ k = F 7) := by omega
    have hv01 : v = 0 ∨ v = 1 := by rw [hv]; exact b2i_01 _
    have hv1 : v = 1 ↔ F 6 = 1 := by rw [hv]; exact b2i_eq1
    have e6 : tk1 F k 6 = F 6 := tk1_ne k0 k5 (by omega)
    have sT := St_tk1 hF k0 k5
    have fin : ∀ D' : eD, Rel D' b (tk1 F k) → (∀ K, (K < b ∨ b + 19 < K) → D' K = D K) → ∀ (O : Prop) [Decidable O], ((D (lw (b + 3) k) 2 ≤ D (lw (b + 3) k) 3 ∨ (v = 1 ∧ ¬ D (lw (b + 3) k) 5 = 0)) ↔ O) → (if O ∧ ¬ (F 10 = 1 ∧ k = F 7) then up D (lw (b + 3) k) 0 (-1) else D) = D' →
        ∃ D1 : eD, Rel D1 b (tkF (n + 1) k F) ∧ (∀ K, (K < b ∨ b + 19 < K) → D1 K = D K) ∧ ∀ Q x3 x4, (wp 12 20 [.inr (.inl b), .inl v, .inl k, x3, x4] [] (hp S D) Q ↔ Q none (hp S D1)) := by
      intro D' hR' hfr O _ hO heq
      obtain ⟨D1, i1, i2, i3⟩ := ih (k + 1) D' (tk1 F k) (by omega) (by omega) hR' sT (by rw [e6]; exact hv)
      refine ⟨D1, i1, fun K hK => (i2 K hK).trans (hfr K hK), fun Q x3 x4 => ?_⟩
      rw [c12k hb hS hv01 k0 k6 hO hbb, heq]
      exact i3 Q _ _
    by_cases hth : F (lx k 0) = -5
    · have e : tk1 F k = F := if_neg (fun q => q.1 hth)
      have hD : D (lw (b + 3) k) 0 = -1 := by
        rcases hL with hL | hL
        · exact hL.1
        · have := hL.2.1; omega
      refine fin D (by rw [e]; exact hR) (fun _ _ => rfl) _ Iff.rfl ?_
      split
      · rw [← hD]; exact up_self
      · rfl
    · obtain ⟨m0, m1, m2, m3, m4, m5, m6⟩ := hL.resolve_left (fun z => hth z.2.1)
      have b5 := hB.2.2.2.2.1
      have hO : (D (lw (b + 3) k) 2 ≤ D (lw (b + 3) k) 3 ∨ (v = 1 ∧ ¬ D (lw (b + 3) k) 5 = 0)) ↔ ¬ goF F k (b2i (F 6 = 1)) := by
        rw [m3, m4, m5, ← hv]
        constructor
        · rintro (y | y) ⟨⟨c1, c2⟩, c3⟩
          · omega
          · exact c3 ⟨y.1, by omega⟩
        · intro y
          by_cases c : lfF F k ≤ F (lx k 2)
          · exact Or.inl c
          · by_cases c2 : v = 1 ∧ ¬ F (lx k 3) = 0
            · exact Or.inr c2
            · exact absurd ⟨⟨hth, by omega⟩, fun z => c2 ⟨z.1, by omega⟩⟩ y
      by_cases hc : ¬ goF F k (b2i (F 6 = 1)) ∧ ¬ (F 10 = 1 ∧ k = F 7)
      · have e : tk1 F k = fu F (lx k 0) (-5) := if_pos ⟨hth, hc.2, hc.1⟩
        have n : ∀ K, K ≠ lw (b + 3) k → up D (lw (b + 3) k) 0 (-1) K = D K := fun K hK => by funext j; rw [up_ne1 hK]
        obtain ⟨u1, u2, u3⟩ := LmR_b hL hB
        refine fin (up D (lw (b + 3) k) 0 (-1)) ?_ (fun K hK => n K (by omega)) _ hO (if_pos hc)
        rw [e]
        refine Rel_lm hR hF k0 k5 n (fun j hj => fu_ne (by unfold lx at hj ⊢; omega)) (Or.inl ?_)
        rw [up_eq, up_ne2 (by decide), up_ne2 (by decide), up_ne2 (by decide), fu_eq]
        exact ⟨rfl, rfl, u1, u2, u3⟩
      · have e : tk1 F k = F := if_neg (fun q => hc ⟨q.2.2, q.2.1⟩)
        refine fin D (by rw [e]; exact hR) (fun _ _ => rfl) _ hO (if_neg hc)
theorem c12 (hb : tg b = 0) (hS : S.length ≤ 2048) (hR : Rel D b F) (hF : St F) :
    ∃ D1 : eD, Rel D1 b (tkF 6 0 F) ∧ (∀ K, (K < b ∨ b + 19 < K) → D1 K = D K) ∧ ∀ Q, (wp 12 0 [.inr (.inl b), .inr (.inl 0), .inr (.inl 0), .inr (.inl 0), .inr (.inl 0)] [] (hp S D) Q ↔ Q none (hp S D1)) := by
  have h0 := tg_ne0 hb (by decide)
  obtain ⟨g8, g1, g2, g3, g12, g16⟩ := be_tg0 b (tg_lt (by omega)) hb
  obtain ⟨D1, i1, i2, i3⟩ := c12a (S := S) hb hS 6 0 D F (by omega) (by omega) hR hF rfl
  refine ⟨D1, i1, i2, fun Q => ?_⟩
  have e3 : rat S D (b + 1) 3 = F 6 := ((rat_b hb).1 (by decide) (by decide)).trans (hR.2.1 3 (by omega))
  rw [← i3 Q (.inr (.inl 0)) (.inr (.inl 0))]
  by_cases q : F 6 = 1
  · rw [b2i_t q]
    simp (disch := first | assumption | omega | decide | exact b2i_01 _ | (unfold lx; omega)) only [s12_0, s12_1, s12_4, s12_5, s12_8, s12_9, s12_12, s12_13, s12_16, s12_17, s12_18, s12_19, kont_some, kont_none, w32_of, if_true, if_false, tdv, tmd, setA_eq, up_setA, rd_hi, Int.reduceToNat, if_neg (show ¬ (1 : Int) = 0 by decide), c51, e3, if_pos q]
  · rw [b2i_f q]
    simp (disch := first | assumption | omega | decide | exact b2i_01 _ | (unfold lx; omega)) only [s12_0, s12_1, s12_4, s12_5, s12_8, s12_9, s12_12, s12_13, s12_16, s12_17, s12_18, s12_19, kont_some, kont_none, w32_of, if_true, if_false, tdv, tmd, setA_eq, up_setA, rd_hi, Int.reduceToNat, if_neg (show ¬ (1 : Int) = 0 by decide), c51, e3, if_neg q]
theorem c13a (hb : tg b = 0) (hS : S.length ≤ 2048) (n : Nat) : ∀ (k m : Int) (D : eD) (F : eRow), k = 6 - n → n ≤ 6 → Rel D b F → St F → 0 ≤ m → m ≤ k →
    ∃ D1 : eD, Rel D1 b (flF n k F m).1 ∧ (∀ K, (K < b ∨ b + 19 < K) → D1 K = D K) ∧ ∀ Q x3 x4, (wp 13 4 [.inr (.inl b), .inl m, .inl k, x3, x4] [] (hp S D) Q ↔ Q (some (.inl (flF n k F m).2)) (hp S D1)) := by
  have h0 := tg_ne0 hb (by decide)
  obtain ⟨g8, g1, g2, g3, g12, g16⟩ := be_tg0 b (tg_lt (by omega)) hb
  induction n with
  | zero =>
    intro k m D F hk hn hR hF m0 m1
    refine ⟨D, hR, fun _ _ => rfl, fun Q x3 x4 => ?_⟩
    have h1 : ¬ k < 6 := by omega
    rw [s13_4]
    simp (disch := first | assumption | omega | decide | exact b2i_01 _ | (unfold lx; omega)) only [s13_5, s13_7, s13_76, s13_77, kont_some, kont_none, w32_of, if_true, if_false, tdv, tmd, setA_eq, up_setA, rd_hi, Int.reduceToNat, if_neg (show ¬ (1 : Int) = 0 by decide), if_neg h1]
    rfl
  | succ n ih =>
    intro k m D F hk hn hR hF m0 m1
    have k0 : 0 ≤ k := by omega
    have k5 : k ≤ 5 := by omega
    have k6 : k < 6 := by omega
    have hL := hR.2.2.2.1.2.1 k k0 k5
    have hth := LmR_th hL
    have z := lw_in (w := b + 3) k0 k5
    have t3 : tg (lw (b + 3) k) = 3 := lw_tg g3
    have tn := tg_ne0 t3 (by decide)
    have elow : (if 0 < D (b + 2) 0 then (0 : Int) else if 0 < D (b + 2) 1 then 1 else if 0 < D (b + 2) 2 then 2 else -5) = lowF F := by
      unfold lowF
      rw [hR.2.2.1 0 (by omega), hR.2.2.1 1 (by omega), hR.2.2.1 2 (by omega)]
    have c14' := fun Q' => c14 (S := S) (D := D) (Q := Q') hb hS
    rw [elow] at c14'
    unfold flF
    by_cases ha : F (lx k 0) = -5
    · have ha' : ¬ ¬ D (lw (b + 3) k) 0 = -1 := fun z => hth.mp z ha
      by_cases hl : lowF F = -5
      · rw [if_neg (fun z => z.2 hl)]
        obtain ⟨D1, i1, i2, i3⟩ := ih (k + 1) m D F (by omega) (by omega) hR hF m0 (by omega)
        refine ⟨D1, i1, i2, fun Q x3 x4 => ?_⟩
        rw [← i3 Q (.inr (.inl (lw (b + 3) k))) (.inl (lowF F)), s13_4]
        simp (disch := first | assumption | omega | decide | exact b2i_01 _ | (unfold lx; omega)) only [s13_5, s13_7, s13_10, s13_11, s13_14, s13_15, s13_18, s13_19, s13_20, s13_23, s13_25, s13_26, s13_29, s13_32, s13_34, s13_36, s13_39, s13_40, s13_43, s13_45, s13_46, s13_49, s13_51, s13_54, s13_55, s13_56, s13_59, s13_60, s13_62, s13_64, s13_67, s13_70, s13_73, kont_some, kont_none, w32_of, if_true, if_false, tdv, tmd, setA_eq, up_setA, rd_hi, Int.reduceToNat, if_neg (show ¬ (1 : Int) = 0 by decide), if_pos k6, c56, c14', c27, b2i_f ha', if_pos hl]
      · rw [if_pos ⟨ha, hl⟩]
        obtain ⟨l0, l2, lp⟩ := (low_b (F := F)).resolve_left hl
        have sF := St_fl1 hF k0 k5 hl
        have bs := stk_b hF l0 l2
        have et : D (b + 2) (lowF F).toNat = F (41 + lowF F).toNat := by
          rw [hR.2.2.1 _ (by omega)]
          exact congrArg F (by omega)
        have er : rat S D (b + 2) (lowF F) = F (41 + lowF F).toNat := ((rat_b hb).2 l0 (by omega)).trans et
        have ln2 : ln S (b + 2) = 3 := (ln_hi (by omega)).trans (be_ln0 b (tg_lt (by omega)) hb).2.1
        have ew : rwr S D (b + 2) (lowF F) (F (41 + lowF F).toNat - 1) = up D (b + 2) (lowF F).toNat (F (41 + lowF F).toNat - 1) := if_pos (by omega)
        have R0 : Rel (up D (b + 2) (lowF F).toNat (F (41 + lowF F).toNat - 1)) b (fu F (41 + lowF F).toNat (F (41 + lowF F).toNat - 1)) := by
          refine Rel_ss hR hF (fun K hK hK2 => by funext j; rw [up_ne1 hK2]) (fun j hj => fu_ne (by omega)) (fun i hi => ?_) (fun i hi => ?_)
          · rw [up_ne1 (by omega), fu_ne (by omega)]; exact hR.2.1 i hi
          · by_cases q : i = (lowF F).toNat
            · rw [q, up_eq, show 41 + (lowF F).toNat = (41 + lowF F).toNat by omega, fu_eq]
            · rw [up_ne2 q, fu_ne (by omega)]; exact hR.2.2.1 i hi
        have s0 := St_stk (i := lowF F) (v := F (41 + lowF F).toNat - 1) hF l0 l2 (by omega)
        have n0 : ∀ K, K ≠ b + 2 → up D (b + 2) (lowF F).toNat (F (41 + lowF F).toNat - 1) K = D K := fun K hK => by funext j; rw [up_ne1 hK]
        generalize up D (b + 2) (lowF F).toNat (F (41 + lowF F).toNat - 1) = D0 at *
        have n1 : ∀ K, K ≠ lw (b + 3) k → mkL D0 (lw (b + 3) k) (lowF F) 100 K = D0 K := fun K hK => by
          unfold mkL
          funext j; rw [up_ne1 hK, up_ne1 hK, up_ne1 hK, up_ne1 hK, up_ne1 hK, up_ne1 hK]
        have R1 : Rel (mkL D0 (lw (b + 3) k) (lowF F) 100) b (fl1 F k) := by
          refine Rel_lm R0 s0 k0 k5 n1 (fun j hj => ?_) (Or.inr ?_)
          · unfold fl1
            by_cases q : j = (41 + lowF F).toNat
            · rw [q, fu_eq, fu_eq]
            · rw [fu_ne q, fu_ne q, comF_ne k0 hj]
          · obtain ⟨e0, e1, e2, e3, e4⟩ := comF_at (F := F) (k := k) (a := lowF F) (b := 100) k0
            have qb := fun p => lx_b (p := p) k0 k5
            have f : ∀ p, 0 ≤ p → p ≤ 4 → fl1 F k (lx k p) = comF F k (lowF F) 100 (lx k p) := fun p p0 p4 => by
              have := qb p p0 p4
              unfold fl1
              exact fu_ne (by omega)
            unfold lfF
            rw [f 0 (by omega) (by omega), f 1 (by omega) (by omega), f 2 (by omega) (by omega), f 3 (by omega) (by omega), f 4 (by omega) (by omega), e0, e1, e2, e3, e4]
            unfold mkL
            simp (disch := first | assumption | omega | decide | exact b2i_01 _) only [up_eq, up_ne2, true_and, and_true]
            exact ⟨l0, l2⟩
        obtain ⟨D1, i1, i2, i3⟩ := ih (k + 1) (m + 1) _ (fl1 F k) (by omega) (by omega) R1 sF (by omega) (by omega)
        refine ⟨D1, i1, fun K hK => by rw [i2 K hK, n1 K (by omega), n0 K (by omega)], fun Q x3 x4 => ?_⟩
        rw [← i3 Q (.inr (.inl (lw (b + 3) k))) (.inl (lowF F)), s13_4]
        simp (disch := first | assumption | omega | decide | exact b2i_01 _ | (unfold lx; omega)) only [s13_5, s13_7, s13_10, s13_11, s13_14, s13_15, s13_18, s13_19, s13_20, s13_23, s13_25, s13_26, s13_29, s13_32, s13_34, s13_36, s13_39, s13_40, s13_43, s13_45, s13_46, s13_49, s13_51, s13_54, s13_55, s13_56, s13_59, s13_60, s13_62, s13_64, s13_67, s13_70, s13_73, kont_some, kont_none, w32_of, if_true, if_false, tdv, tmd, setA_eq, up_setA, rd_hi, Int.reduceToNat, if_neg (show ¬ (1 : Int) = 0 by decide), if_pos k6, c56, c14', c27, b2i_f ha', if_neg hl, c51, er, c52, ew, c24]
    · have ha' := hth.mpr ha
      rw [if_neg (fun z => ha z.1)]
      obtain ⟨D1, i1, i2, i3⟩ := ih (k + 1) m D F (by omega) (by omega) hR hF m0 (by omega)
      refine ⟨D1, i1, i2, fun Q x3 x4 => ?_⟩
      rw [← i3 Q (.inr (.inl (lw (b + 3) k))) (.inl (lowF F)), s13_4]
      simp (disch := first | assumption | omega | decide | exact b2i_01 _ | (unfold lx; omega)) only [s13_5, s13_7, s13_10, s13_11, s13_14, s13_15, s13_18, s13_19, s13_20, s13_23, s13_25, s13_26, s13_29, s13_32, s13_34, s13_36, s13_39, s13_40, s13_43, s13_45, s13_46, s13_49, s13_51, s13_54, s13_55, s13_56, s13_59, s13_60, s13_62, s13_64, s13_67, s13_70, s13_73, kont_some, kont_none, w32_of, if_true, if_false, tdv, tmd, setA_eq, up_setA, rd_hi, Int.reduceToNat, if_neg (show ¬ (1 : Int) = 0 by decide), if_pos k6, c56, c14', c27, b2i_t ha']
theorem c13 (hb : tg b = 0) (hS : S.length ≤ 2048) (hR : Rel D b F) (hF : St F) :
    ∃ D1 : eD, Rel D1 b (flF 6 0 F 0).1 ∧ (∀ K, (K < b ∨ b + 19 < K) → D1 K = D K) ∧ ∀ Q, (wp 13 0 [.inr (.inl b), .inr (.inl 0), .inr (.inl 0), .inr (.inl 0), .inr (.inl 0)] [] (hp S D) Q ↔ Q (some (.inl (flF 6 0 F 0).2)) (hp S D1)) := by
  obtain ⟨D1, i1, i2, i3⟩ := c13a (S := S) hb hS 6 0 0 D F (by omega) (by omega) hR hF (by omega) (by omega)
  refine ⟨D1, i1, i2, fun Q => ?_⟩
  rw [← i3 Q (.inr (.inl 0)) (.inr (.inl 0))]
  simp (disch := first | assumption | omega | decide | exact b2i_01 _ | (unfold lx; omega)) only [s13_0, s13_1, s13_2, s13_3, kont_some, kont_none, w32_of, if_true, if_false, tdv, tmd, setA_eq, up_setA, rd_hi, Int.reduceToNat, if_neg (show ¬ (1 : Int) = 0 by decide)]
end SPEC65
