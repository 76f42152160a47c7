/-! planned: the class's rows in the order of their ticks -/
theorem bah_eq {D : eD} {q : Nat} {t : Int} {N : Nat} (hN : D q 3 = N) (n : Nat) : ∀ k : Nat, N ≤ k + n → bahF D q t n k = ((List.countP (fun i => decide (D (q + 1) i < t)) (List.range' k (N - k)) : Nat) : Int) := by
  induction n with
  | zero =>
    intro k hk
    rw [show N - k = 0 by omega]
    rfl
  | succ n ih =>
    intro k hk
    unfold bahF
    by_cases h : (k : Int) < D q 3
    · rw [if_pos h, show N - k = (N - (k + 1)) + 1 by omega, List.range'_succ, List.countP_cons, show ((k : Int) + 1) = ((k + 1 : Nat) : Int) by omega, ih (k + 1) (by omega), show ((k : Int)).toNat = k by omega]
      by_cases c : D (q + 1) k < t
      · rw [b2i_t c, if_pos (by simp [c])]; omega
      · rw [b2i_f c, if_neg (by simp [c])]; omega
    · rw [if_neg h, show N - k = 0 by omega]
      rfl
theorem cnt_lt (i : Nat) : ∀ N : Nat, List.countP (fun j => decide (j < i)) (List.range N) = min i N := by
  intro N
  induction N with
  | zero => simp
  | succ N ih =>
    rw [List.range_succ, List.countP_append, ih]
    by_cases c : N < i
    · rw [show List.countP (fun j => decide (j < i)) [N] = 1 by simp [c]]; omega
    · rw [show List.countP (fun j => decide (j < i)) [N] = 0 by simp [c]]; omega
theorem bah_at {D : eD} {q : Nat} {F : eRow} {i j : Int} (h : PlR D q F) (hS : Srt F) (h49 : 0 ≤ F 49 ∧ F 49 ≤ 10) (j0 : 0 ≤ j) (j1 : j < F 49) (he : D (q + 1) i.toNat = F (50 + 3 * j).toNat) : bahF D q (D (q + 1) i.toNat) 11 0 = j := by
  obtain ⟨p1, p2, p3, p4⟩ := h
  have hN : D q 3 = ((F 49).toNat : Nat) := by omega
  have e := bah_eq (t := D (q + 1) i.toNat) hN 11 0 (by omega)
  rw [show ((0 : Nat) : Int) = 0 from rfl] at e
  rw [e, Nat.sub_zero, ← List.range_eq_range']
  generalize hM : (F 49).toNat = N at *
  have m1 : List.Nodup ((List.range N).map (fun i => D (q + 1) i)) := by
    unfold List.Nodup
    rw [List.pairwise_map]
    refine List.Pairwise.imp_of_mem ?_ List.pairwise_lt_range
    intro a b ha hb hab z
    rw [List.mem_range] at ha hb
    have := p4 a b (by omega) (by omega) (by omega) (by omega) (by rw [show ((a : Int)).toNat = a by omega, show ((b : Int)).toNat = b by omega]; exact z)
    omega
  have m2 : List.Nodup ((List.range N).map (fun j => F (50 + 3 * j))) := by
    unfold List.Nodup
    rw [List.pairwise_map]
    refine List.Pairwise.imp_of_mem ?_ List.pairwise_lt_range
    intro a b ha hb hab z
    rw [List.mem_range] at ha hb
    have := hS a b (by omega) (by omega) (by omega)
    rw [show (50 + 3 * (a : Int)).toNat = 50 + 3 * a by omega, show (50 + 3 * (b : Int)).toNat = 50 + 3 * b by omega] at this
    omega
  have hp : List.Perm ((List.range N).map (fun i => D (q + 1) i)) ((List.range N).map (fun j => F (50 + 3 * j))) := by
    rw [List.perm_ext_iff_of_nodup m1 m2]
    intro x
    rw [List.mem_map, List.mem_map]
    constructor
    · rintro ⟨a, ha, rfl⟩
      rw [List.mem_range] at ha
      obtain ⟨j', g0, g1, g2⟩ := p2 a (by omega) (by omega)
      refine ⟨j'.toNat, List.mem_range.mpr (by omega), ?_⟩
      have := g2.1
      rw [show ((a : Int)).toNat = a by omega] at this
      rw [this]
      exact congrArg F (by omega)
    · rintro ⟨a, ha, rfl⟩
      rw [List.mem_range] at ha
      obtain ⟨i', g0, g1, g2⟩ := p3 a (by omega) (by omega)
      refine ⟨i'.toNat, List.mem_range.mpr (by omega), ?_⟩
      rw [g2.1]
      exact congrArg F (by omega)
  have hc := hp.countP_eq (fun x => decide (x < D (q + 1) i.toNat))
  rw [List.countP_map, List.countP_map] at hc
  have e1 : List.countP (fun k => decide (D (q + 1) k < D (q + 1) i.toNat)) (List.range N) = List.countP (fun k => decide (k < j.toNat)) (List.range N) := by
    refine Eq.trans hc ?_
    refine List.countP_congr (fun k hk => ?_)
    rw [List.mem_range] at hk
    show decide (F (50 + 3 * k) < D (q + 1) i.toNat) = true ↔ decide (k < j.toNat) = true
    rw [decide_eq_true_eq, decide_eq_true_eq, he]
    constructor
    · intro z
      rcases (show (k : Int) < j ∨ j = k ∨ j < k by omega) with y | y | y
      · omega
      · rw [y, show (50 + 3 * (k : Int)).toNat = 50 + 3 * k by omega] at z; omega
      · have := hS j k j0 y (by omega)
        rw [show (50 + 3 * (k : Int)).toNat = 50 + 3 * k by omega] at this
        omega
    · intro z
      have := hS k j (by omega) (by omega) j1
      rw [show (50 + 3 * (k : Int)).toNat = 50 + 3 * k by omega] at this
      exact this
  rw [e1, cnt_lt]
  omega
theorem rop_b {D : eD} {q : Nat} {p : Int} (n : Nat) : ∀ k : Int, 0 ≤ k → (ropF D q p n k = -5 ∧ ∀ i, k ≤ i → i < k + n → i < D q 3 → ¬ bahF D q (D (q + 1) i.toNat) 11 0 = p) ∨ (k ≤ ropF D q p n k ∧ ropF D q p n k < D q 3 ∧ bahF D q (D (q + 1) (ropF D q p n k).toNat) 11 0 = p) := by
  induction n with
  | zero => exact fun k _ => Or.inl ⟨rfl, fun i h1 h2 => by omega⟩
  | succ n ih =>
    intro k hk
    unfold ropF
    by_cases h1 : k < D q 3
    · rw [if_pos h1]
      by_cases h2 : bahF D q (D (q + 1) k.toNat) 11 0 = p
      · rw [if_pos h2]
        exact Or.inr ⟨Int.le_refl _, h1, h2⟩
      · rw [if_neg h2]
        rcases ih (k + 1) (by omega) with ⟨g1, g2⟩ | ⟨g1, g2, g3⟩
        · refine Or.inl ⟨g1, fun i i0 i1 i2 => ?_⟩
          by_cases z : i = k
          · rw [z]; exact h2
          · exact g2 i (by omega) (by omega) i2
        · exact Or.inr ⟨by omega, g2, g3⟩
    · rw [if_neg h1]
      exact Or.inl ⟨rfl, fun i i0 i1 i2 => by omega⟩
section SPEC73
variable {S : List Int} {D E : eD} {h : eH} {Q : Option eV → eH → Prop} {F G P T X : eRow} {n k len w v s a b p : Int}
theorem s_planned (hS : S.length ≤ 2048) (hW : Wd D) : ∀ Q, (wp 87 0 [.inr (.inl 8), .inl p, .inl w, .inr (.inl 0)] [] (hp S D) Q ↔ Q (some (.inl (m158 D p w))) (hp S D)) := by
  have t8 : tg 8 = 7 := rfl
  have t9 : tg 9 = 0 := rfl
  have t21 : tg 21 = 4 := rfl
  have t22 : tg 22 = 100 := rfl
  have t23 : tg 23 = 100 := rfl
  have t24 : tg 24 = 100 := rfl
  intro Q
  have hR := hW.1.1
  have hF := hW.2.1.1
  have b49 : 0 ≤ D 159 49 ∧ D 159 49 ≤ 10 := hF.2.2.2.2.2.2.2.2.2.2.2.2.2.2.2.2.2.2.2.1
  have hP : PlR D 21 (D 159) := hR.2.2.2.2.1
  have hP' := hP
  obtain ⟨p1, p2, p3, p4⟩ := hP'
  have hO := hW.2.1.2.2.1.2
  unfold m158
  by_cases h1 : p < 0
  · rw [if_pos h1]
    simp (disch := first | assumption | omega | decide | exact b2i_01 _ | (unfold lx; omega)) only [s87_0, s87_1, s87_4, s87_5, s87_6, s87_7, s87_10, s87_13, s87_15, s87_16, s87_17, s87_20, s87_23, s87_24, s87_27, s87_28, s87_29, s87_31, s87_34, s87_36, s87_37, s87_64, s87_65, s87_68, s87_71, s87_74, s87_75, s87_78, s87_79, s87_80, s87_83, s87_86, s87_89, s87_90, s87_93, s87_94, s87_95, s87_98, s87_101, s87_104, s87_105, s87_108, kont_some, kont_none, w32_of, if_true, if_false, tdv, tmd, setA_eq, up_setA, rd_hi, Int.reduceToNat, if_neg (show ¬ (1 : Int) = 0 by decide), Nat.reduceAdd, if_pos h1]
  · rw [if_neg h1]
    have c41' := fun Q' => c41 (S := S) (D := D) (Q := Q') (p := p) t21 hS (by omega)
    by_cases h2 : 0 ≤ w ∧ w ≤ 2
    · rw [if_pos h2]
      by_cases h3 : p < D 159 49
      · rw [if_pos h3]
        have hr : ∃ r, ropF D 21 p 11 0 = r ∧ 0 ≤ r ∧ r < D 159 49 ∧ PlE D 21 (D 159) r p := by
          rcases rop_b (D := D) (q := 21) (p := p) 11 0 (by omega) with ⟨g1, g2⟩ | ⟨g1, g2, g3⟩
          · obtain ⟨i, i0, i1, i2⟩ := p3 p (by omega) h3
            exact absurd (bah_at hP hO b49 (by omega) h3 i2.1) (g2 i i0 (by omega) (by omega))
          · obtain ⟨j, j0, j1, j2⟩ := p2 _ g1 (by omega)
            have := bah_at hP hO b49 j0 j1 j2.1
            have hj : j = p := by omega
            exact ⟨_, rfl, g1, by omega, hj ▸ j2⟩
        obtain ⟨r, hr0, r0, r1, z1, z2, z3⟩ := hr
        rw [hr0] at c41'
        have z1' : D 22 r.toNat = D 159 (50 + 3 * p + 0).toNat := z1.trans (congrArg _ (by omega))
        have z2' : D 23 r.toNat = D 159 (50 + 3 * p + 1).toNat := z2.trans (congrArg _ (by omega))
        have z3' : D 24 r.toNat = D 159 (50 + 3 * p + 2).toNat := z3.trans (congrArg _ (by omega))
        have r1' : rat S D 22 r = _ := (rat_p t21 (by omega) r0 (by omega)).trans z1'
        have r2' : rat S D 23 r = _ := (rat_p t21 (by omega) r0 (by omega)).trans z2'
        have r3' : rat S D 24 r = _ := (rat_p t21 (by omega) r0 (by omega)).trans z3'
        have nr : ¬ r = -5 := by omega
        have st : wp 87 0 [.inr (.inl 8), .inl p, .inl w, .inr (.inl 0)] [] (hp S D) Q ↔ wp 87 38 [.inr (.inl 8), .inl p, .inl w, .inl r] [.inl w] (hp S D) Q := by
          simp (disch := first | assumption | omega | decide | exact b2i_01 _ | (unfold lx; omega)) only [s87_0, s87_1, s87_4, s87_5, s87_6, s87_7, s87_10, s87_13, s87_15, s87_16, s87_17, s87_20, s87_23, s87_24, s87_27, s87_28, s87_29, s87_31, s87_34, s87_36, s87_37, kont_some, kont_none, w32_of, if_true, if_false, tdv, tmd, setA_eq, up_setA, rd_hi, Int.reduceToNat, if_neg (show ¬ (1 : Int) = 0 by decide), Nat.reduceAdd, if_neg h1, c91, b2i_t h2, c41', if_neg nr]
        rw [st, s87_38]
        rcases (show w = 0 ∨ w = 1 ∨ w = 2 by omega) with rfl | rfl | rfl
        · simp (disch := first | assumption | omega | decide | exact b2i_01 _ | (unfold lx; omega)) only [s87_64, s87_65, s87_68, s87_71, s87_74, s87_75, s87_78, s87_79, s87_80, s87_83, s87_86, s87_89, s87_90, s87_93, s87_94, s87_95, s87_98, s87_101, s87_104, s87_105, s87_108, kont_some, kont_none, w32_of, if_true, if_false, tdv, tmd, setA_eq, up_setA, rd_hi, Int.reduceToNat, if_neg (show ¬ (1 : Int) = 0 by decide), Nat.reduceAdd, Int.reduceEq, c51, r1']
        · simp (disch := first | assumption | omega | decide | exact b2i_01 _ | (unfold lx; omega)) only [s87_64, s87_65, s87_68, s87_71, s87_74, s87_75, s87_78, s87_79, s87_80, s87_83, s87_86, s87_89, s87_90, s87_93, s87_94, s87_95, s87_98, s87_101, s87_104, s87_105, s87_108, kont_some, kont_none, w32_of, if_true, if_false, tdv, tmd, setA_eq, up_setA, rd_hi, Int.reduceToNat, if_neg (show ¬ (1 : Int) = 0 by decide), Nat.reduceAdd, Int.reduceEq, c51, r2']
        · simp (disch := first | assumption | omega | decide | exact b2i_01 _ | (unfold lx; omega)) only [s87_64, s87_65, s87_68, s87_71, s87_74, s87_75, s87_78, s87_79, s87_80, s87_83, s87_86, s87_89, s87_90, s87_93, s87_94, s87_95, s87_98, s87_101, s87_104, s87_105, s87_108, kont_some, kont_none, w32_of, if_true, if_false, tdv, tmd, setA_eq, up_setA, rd_hi, Int.reduceToNat, if_neg (show ¬ (1 : Int) = 0 by decide), Nat.reduceAdd, Int.reduceEq, c51, r3']
      · rw [if_neg h3]
        have hr : ropF D 21 p 11 0 = -5 := by
          rcases rop_b (D := D) (q := 21) (p := p) 11 0 (by omega) with ⟨g1, g2⟩ | ⟨g1, g2, g3⟩
          · exact g1
          · obtain ⟨j, j0, j1, j2⟩ := p2 _ g1 (by omega)
            have := bah_at hP hO b49 j0 j1 j2.1
            omega
        rw [hr] at c41'
        simp (disch := first | assumption | omega | decide | exact b2i_01 _ | (unfold lx; omega)) only [s87_0, s87_1, s87_4, s87_5, s87_6, s87_7, s87_10, s87_13, s87_15, s87_16, s87_17, s87_20, s87_23, s87_24, s87_27, s87_28, s87_29, s87_31, s87_34, s87_36, s87_37, s87_64, s87_65, s87_68, s87_71, s87_74, s87_75, s87_78, s87_79, s87_80, s87_83, s87_86, s87_89, s87_90, s87_93, s87_94, s87_95, s87_98, s87_101, s87_104, s87_105, s87_108, kont_some, kont_none, w32_of, if_true, if_false, tdv, tmd, setA_eq, up_setA, rd_hi, Int.reduceToNat, if_neg (show ¬ (1 : Int) = 0 by decide), Nat.reduceAdd, if_neg h1, c91, b2i_t h2, c41']
    · rw [if_neg h2]
      simp (disch := first | assumption | omega | decide | exact b2i_01 _ | (unfold lx; omega)) only [s87_0, s87_1, s87_4, s87_5, s87_6, s87_7, s87_10, s87_13, s87_15, s87_16, s87_17, s87_20, s87_23, s87_24, s87_27, s87_28, s87_29, s87_31, s87_34, s87_36, s87_37, s87_64, s87_65, s87_68, s87_71, s87_74, s87_75, s87_78, s87_79, s87_80, s87_83, s87_86, s87_89, s87_90, s87_93, s87_94, s87_95, s87_98, s87_101, s87_104, s87_105, s87_108, kont_some, kont_none, w32_of, if_true, if_false, tdv, tmd, setA_eq, up_setA, rd_hi, Int.reduceToNat, if_neg (show ¬ (1 : Int) = 0 by decide), Nat.reduceAdd, if_neg h1, c91, b2i_f h2]
end SPEC73
