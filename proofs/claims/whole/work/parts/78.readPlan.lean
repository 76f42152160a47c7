/-! the whole text; readPlan -/
theorem tx_keep {E : eD} (n : Nat) : ∀ (p m : Int) (R : eRow), 0 ≤ m → m ≤ (txF E n p m R).2.2.1 ∧ ∀ j : Nat, (j : Int) < 3 * m → (txF E n p m R).2.2.2 j = R j := by
  induction n with
  | zero => exact fun p m R _ => ⟨Int.le_refl _, fun _ _ => rfl⟩
  | succ n ih =>
    intro p m R hm
    unfold txF
    by_cases c1 : (rbF E p).1 = 1
    · rw [if_pos c1]
      have k := (rdR_at (R := R) (t := (rbF E p).2.2.1) (a := (rbF E p).2.2.2.1) (b := (rbF E p).2.2.2.2) hm).2.2.2
      by_cases c2 : seeF E (rbF E p).2.1 44 44
      · rw [if_pos c2]
        obtain ⟨g1, g2⟩ := ih ((rbF E p).2.1 + 1) (m + 1) (rdR R m (rbF E p).2.2.1 (rbF E p).2.2.2.1 (rbF E p).2.2.2.2) (by omega)
        exact ⟨by omega, fun j hj => (g2 j (by omega)).trans (k j hj)⟩
      · rw [if_neg c2]
        exact ⟨by show m ≤ m + 1; omega, fun j hj => k j hj⟩
    · rw [if_neg c1]
      exact ⟨Int.le_refl _, fun _ _ => rfl⟩
section SPEC78
variable {S : List Int} {D E : eD} {h : eH} {Q : Option eV → eH → Prop} {F P T X : eRow} {k len w v s t a b c pl dg tk : Int}
theorem c45t (hS : S.length ≤ 2048) (hT : Tx E) (n : Nat) : ∀ (p m : Int) (R : eRow) (D : eD) (G : eRow), TxC D E → MS D 0 0 0 → 0 ≤ p → p ≤ E 158 7 → 0 ≤ m → 6 * m ≤ p → 11 ≤ m + n → PlR D 154 G → Srt G → (0 ≤ G 49 ∧ G 49 ≤ m) →
    ∃ D1 : eD, D1 152 1 = D 152 1 ∧ D1 152 2 = D 152 2 ∧ (∀ K, K ≠ 152 → (K < 154 ∨ 157 < K) → D1 K = D K) ∧ ((txF E n p m R).1 = 0 ∨ (PlR D1 154 (plsF (txF E n p m R).2.2.2 ((txF E n p m R).2.2.1 - m).toNat m G) ∧ Srt (plsF (txF E n p m R).2.2.2 ((txF E n p m R).2.2.1 - m).toNat m G))) ∧ ∀ Q, (wp 45 15 [.inr 152, .inr 154, .inl p] [] (hp S D) Q ↔ Q (some (.inl (if (txF E n p m R).1 = 0 then (txF E n p m R).2.1 else -1))) (hp S D1)) := by
  have hL := hT.2.1
  induction n with
  | zero => exact fun p m R D G _ _ h0 h1 h2 h3 h4 => by omega
  | succ n ih =>
    intro p m R D G hC hM h0 h1 h2 h3 h4 hP hSr h49
    have hr : p < E 158 7 → 0 ≤ D 154 3 ∧ D 154 3 < 10 := fun z => by rw [hP.1]; omega
    unfold txF
    rcases c45b (S := S) hS hT hC hM hr h0 h1 with ⟨q, D1, i1, i2⟩ | ⟨q, qL, D0, i1, i2⟩
    · rw [if_neg (by rw [q]; decide)]
      refine ⟨D1, i1.1, i1.2.1, fun K k1 _ => i1.2.2 K k1, Or.inl rfl, fun Q => ?_⟩
      rw [i2 Q, if_pos rfl]
    · rw [if_pos q]
      obtain ⟨x1, x2, x3⟩ := rb_b hT h0 (by omega)
      obtain ⟨_, x4, x5, x6, x7⟩ := x3.resolve_left (by rw [q]; decide)
      generalize (rbF E p).2.1 = p1 at *
      generalize (rbF E p).2.2.1 = bt at *
      generalize (rbF E p).2.2.2.1 = bk at *
      generalize (rbF E p).2.2.2.2 = bl at *
      have hP0 : PlR D0 154 G := PlR_cg hP (fun K _ _ => i1.2.2 K (by omega))
      obtain ⟨R1, S1⟩ := PlR_ent (t := bt) (a := bk) (b := bl) hP0 hSr (by omega) (Or.inl (by omega))
      have n49 := pln_49 (F := G) (t := bt) (a := bk) (b := bl) (by omega)
      have b49 : 0 ≤ plnF G bt bk bl 49 ∧ plnF G bt bk bl 49 ≤ m + 1 := by rw [n49]; split <;> omega
      obtain ⟨ra, rb, rc, rd'⟩ := rdR_at (R := R) (t := bt) (a := bk) (b := bl) h2
      have ef := (ent_at (D := D0) (q := 154) (t := bt) (a := bk) (b := bl)).2.2.2.2
      have f : ∀ K, K ≠ 152 → (K < 154 ∨ 157 < K) → up (entD D0 154 bt bk bl) 152 3 4 K = D K := fun K k1 k2 => by
        rw [← i1.2.2 K k1, ← ef K (by omega)]
        funext j; exact up_ne1 k1
      have e152 : ∀ j, j ≠ 3 → up (entD D0 154 bt bk bl) 152 3 4 152 j = D0 152 j := fun j hj => by
        rw [up_ne2 hj, ef 152 (by omega)]
      have hP1 : PlR (up (entD D0 154 bt bk bl) 152 3 4) 154 (plnF G bt bk bl) := PlR_cg R1 (fun K _ _ => by funext j; exact up_ne1 (by omega))
      have m3 : up (entD D0 154 bt bk bl) 152 3 4 152 3 = 4 := up_eq
      have g1 : up (entD D0 154 bt bk bl) 152 3 4 152 1 = D 152 1 := (e152 1 (by decide)).trans i1.1
      have g2 : up (entD D0 154 bt bk bl) 152 3 4 152 2 = D 152 2 := (e152 2 (by decide)).trans i1.2.1
      generalize up (entD D0 154 bt bk bl) 152 3 4 = D1 at *
      have hC1 : TxC D1 E := ⟨g1.trans hC.1, fun i hi => by rw [f 153 (by decide) (by decide)]; exact hC.2 i hi⟩
      by_cases c2 : seeF E p1 44 44
      · rw [if_pos c2]
        have c2' := c2
        obtain ⟨d2, d3, d4⟩ := c2'
        have g := TxC_g hC1 (by omega) d2
        have z := fun Q' => c47f (S := S) (D := D1) (Q := Q') (c := E 163 p1.toNat) m3
        have e44 : E 163 p1.toNat = 44 := by omega
        rw [b2i_t e44, ← g] at z
        have y := c45y (S := S) hS (by omega) (by rw [hC1.1]; exact d2) (by rw [hC1.1]; exact hL) z
        have f2 : MF (up (up (up D1 152 3 0) 152 4 0) 152 5 0) D1 := MF_t (MF_up (by decide)) (MF_t (MF_up (by decide)) (MF_up (by decide)))
        have mm : MS (up (up (up D1 152 3 0) 152 4 0) 152 5 0) 0 0 0 := ⟨by rw [up_ne2 (by decide), up_ne2 (by decide), up_eq], by rw [up_ne2 (by decide), up_eq], up_eq⟩
        generalize up (up (up D1 152 3 0) 152 4 0) 152 5 0 = D2 at *
        obtain ⟨D3, j1, j2, j3, j4, j5⟩ := ih (p1 + 1) (m + 1) (rdR R m bt bk bl) D2 (plnF G bt bk bl) (TxC_f hC1 f2) mm (by omega) (by omega) (by omega) (by omega) (by omega) (PlR_cg hP1 (fun K _ _ => f2.2.2 K (by omega))) S1 b49
        obtain ⟨k1, k2⟩ := tx_keep (E := E) n (p1 + 1) (m + 1) (rdR R m bt bk bl) (by omega)
        refine ⟨D3, j1.trans (f2.1.trans g1), j2.trans (f2.2.1.trans g2), fun K q1 q2 => (j3 K q1 q2).trans ((f2.2.2 K q1).trans (f K q1 q2)), j4.imp id (fun j4 => ?_), fun Q => ?_⟩
        · have e : plsF (txF E n (p1 + 1) (m + 1) (rdR R m bt bk bl)).2.2.2 ((txF E n (p1 + 1) (m + 1) (rdR R m bt bk bl)).2.2.1 - m).toNat m G = plsF (txF E n (p1 + 1) (m + 1) (rdR R m bt bk bl)).2.2.2 ((txF E n (p1 + 1) (m + 1) (rdR R m bt bk bl)).2.2.1 - (m + 1)).toNat (m + 1) (plnF G bt bk bl) := by
            rw [show ((txF E n (p1 + 1) (m + 1) (rdR R m bt bk bl)).2.2.1 - m).toNat = ((txF E n (p1 + 1) (m + 1) (rdR R m bt bk bl)).2.2.1 - (m + 1)).toNat + 1 by omega]
            show plsF _ _ (m + 1) (plnF G _ _ _) = _
            rw [k2 _ (by omega), k2 _ (by omega), k2 _ (by omega), ra, rb, rc]
          rw [e]
          exact j4
        · rw [i2 Q, y Q, j5 Q]
      · rw [if_neg c2]
        dsimp only
        by_cases hend : p1 = E 158 7
        · rw [b2i_t hend]
          refine ⟨D1, g1, g2, f, Or.inr ?_, fun Q => ?_⟩
          · rw [show (m + 1 - m).toNat = 0 + 1 by omega]
            show PlR D1 154 (plnF G _ _ _) ∧ Srt (plnF G _ _ _)
            rw [ra, rb, rc]
            exact ⟨hP1, S1⟩
          · rw [i2 Q, c45e (by rw [hC1.1]; exact hend), if_pos m3, if_neg (by decide)]
        · rw [b2i_f hend]
          have hlt : p1 < E 158 7 := by omega
          have g := TxC_g hC1 (by omega) hlt
          have z := fun Q' => c47f (S := S) (D := D1) (Q := Q') (c := E 163 p1.toNat) m3
          have e44 : ¬ E 163 p1.toNat = 44 := fun z => c2 ⟨hlt, by omega, by omega⟩
          rw [b2i_f e44, ← g] at z
          have f2 : MF (up (up (up D1 152 3 0) 152 4 0) 152 5 0) D1 := MF_t (MF_up (by decide)) (MF_t (MF_up (by decide)) (MF_up (by decide)))
          refine ⟨_, f2.1.trans g1, f2.2.1.trans g2, fun K q1 q2 => (f2.2.2 K q1).trans (f K q1 q2), Or.inl rfl, fun Q => ?_⟩
          rw [i2 Q, c45x (S := S) hS (by omega) (by rw [hC1.1]; exact hlt) (by rw [hC1.1]; exact hL) z Q, if_pos rfl]
theorem c45 (hS : S.length ≤ 2048) (hT : Tx E) (hC : TxC D E) {R G : eRow} (hG : G 49 = 0) :
    ∃ D1 : eD, D1 152 1 = D 152 1 ∧ D1 152 2 = 0 ∧ (∀ K, K ≠ 152 → (K < 154 ∨ 157 < K) → D1 K = D K) ∧ ((txF E 11 0 0 R).1 = 0 ∨ (PlR D1 154 (plsF (txF E 11 0 0 R).2.2.2 (txF E 11 0 0 R).2.2.1.toNat 0 G) ∧ Srt (plsF (txF E 11 0 0 R).2.2.2 (txF E 11 0 0 R).2.2.1.toNat 0 G))) ∧ ∀ Q, (wp 45 0 [.inr 152, .inr 154, .inr 0] [] (hp S D) Q ↔ Q (some (.inl (if (txF E 11 0 0 R).1 = 0 then (txF E 11 0 0 R).2.1 else -1))) (hp S D1)) := by
  have t1 : tg 152 = 5 := rfl
  have t4 : tg 154 = 4 := rfl
  have hX : ∀ Q, (wp 45 0 [.inr 152, .inr 154, .inr 0] [] (hp S D) Q ↔ wp 45 15 [.inr 152, .inr 154, .inl 0] [] (hp S (up (up (up (up (up D 154 3 0) 152 2 0) 152 3 0) 152 4 0) 152 5 0)) Q) := fun Q => by
    simp (disch := first | assumption | omega | decide | exact b2i_01 _ | (unfold lx; omega)) only [s45_0, s45_1, s45_4, s45_5, s45_6, s45_9, s45_10, s45_13, s45_14, kont_some, kont_none, w32_of, if_true, if_false, tdv, tmd, setA_eq, up_setA, rd_hi, Int.reduceToNat, if_neg (show ¬ (1 : Int) = 0 by decide), c37, c46]
  have g1 : up (up (up (up (up D 154 3 0) 152 2 0) 152 3 0) 152 4 0) 152 5 0 152 1 = D 152 1 := by
    rw [up_ne2 (by decide), up_ne2 (by decide), up_ne2 (by decide), up_ne2 (by decide), up_ne1 (by decide)]
  have g2 : up (up (up (up (up D 154 3 0) 152 2 0) 152 3 0) 152 4 0) 152 5 0 152 2 = 0 := by
    rw [up_ne2 (by decide), up_ne2 (by decide), up_ne2 (by decide), up_eq]
  have g3 : MS (up (up (up (up (up D 154 3 0) 152 2 0) 152 3 0) 152 4 0) 152 5 0) 0 0 0 := ⟨by rw [up_ne2 (by decide), up_ne2 (by decide), up_eq], by rw [up_ne2 (by decide), up_eq], up_eq⟩
  have g4 : up (up (up (up (up D 154 3 0) 152 2 0) 152 3 0) 152 4 0) 152 5 0 154 3 = 0 := by
    rw [up_ne1 (by decide), up_ne1 (by decide), up_ne1 (by decide), up_ne1 (by decide), up_eq]
  have f : ∀ K, K ≠ 152 → (K < 154 ∨ 157 < K) → up (up (up (up (up D 154 3 0) 152 2 0) 152 3 0) 152 4 0) 152 5 0 K = D K := fun K k1 k2 => by
    funext j
    rw [up_ne1 k1, up_ne1 k1, up_ne1 k1, up_ne1 k1, up_ne1 (by omega)]
  generalize up (up (up (up (up D 154 3 0) 152 2 0) 152 3 0) 152 4 0) 152 5 0 = D0 at *
  have hP : PlR D0 154 G := ⟨by rw [g4, hG], fun i _ i1 => by omega, fun i _ i1 => by omega, fun i i' _ i1 => by omega⟩
  have hSr : Srt G := fun i j _ _ i2 => by omega
  obtain ⟨D1, j1, j2, j3, j4, j5⟩ := c45t (S := S) hS hT 11 0 0 R D0 G ⟨g1.trans hC.1, fun i hi => by rw [f 153 (by decide) (by decide)]; exact hC.2 i hi⟩ g3 (by omega) hT.1 (by omega) (by omega) (by omega) hP hSr (by omega)
  rw [Int.sub_zero] at j4
  exact ⟨D1, j1.trans g1, j2.trans g2, fun K k1 k2 => (j3 K k1 k2).trans (f K k1 k2), j4, fun Q => (hX Q).trans (j5 Q)⟩
end SPEC78
