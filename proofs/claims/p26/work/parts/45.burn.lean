/-! a lamp burns for a tick; the sockets -/
def gwB (D : eD) (k : Nat) (lim : Int) : Int := if 100 * curF (by3 (D k 0) 1000 1400 700) (D k 2) (D k 3 + 1) < lim * by3 (D k 0) 1000 1400 700 then D k 4 + 1 else 0
def gwD (D : eD) (k : Nat) (lim pat : Int) : eD := up (up (up D k 3 (D k 3 + 1)) k 4 (gwB D k lim)) k 5 (if D k 5 = 0 then b2i (pat ≤ gwB D k lim) else 1)
section SPEC45
variable {S : List Int} {D E : eD} {h : eH} {Q : Option eV → eH → Prop} {v w x s p m t lim pat : Int} {r j a b k n : Nat} {F R : eRow} {l0 l1 : eV}
theorem c34 (hk : tg k = 3) (hS : S.length ≤ 2048) (h1 : 0 ≤ D k 0) (h2 : D k 0 ≤ 2) (h3 : 1 ≤ D k 2) (h4 : D k 2 ≤ 2000) (h5 : 0 ≤ D k 3) (h6 : D k 3 ≤ 1998) (h7 : 0 ≤ D k 4) (h8 : D k 4 ≤ 1998) (h9 : D k 5 = 0 ∨ D k 5 = 1) (hl1 : 0 ≤ lim) (hl2 : lim ≤ 100) : wp 34 0 [.inr (.inl k), .inl lim, .inl pat, .inr (.inl 0), .inr (.inl 0)] [] (hp S D) Q ↔ Q (some (.inl (b2i (D k 5 = 0 ∧ pat ≤ gwB D k lim)))) (hp S (gwD D k lim pat)) := by
  have h0 := tg_ne0 hk (by decide)
  have t2 : tg 3 = 100 := rfl
  have hr : ∀ D' : eD, rat S D' 3 (D k 0) = by3 (D k 0) 1000 1400 700 := fun D' => rat_by (j := 2) rfl (by omega) ⟨h1, h2⟩
  have c := fun Q' => c32 (S := S) (D := up D k 3 (D k 3 + 1)) (Q := Q') (k := k) hk hS (by rw [up_ne2 (by decide)]; exact h1) (by rw [up_ne2 (by decide)]; exact h2) (by rw [up_ne2 (by decide)]; exact h3) (by rw [up_ne2 (by decide)]; exact h4) (by rw [up_eq]; omega) (by rw [up_eq]; omega)
  simp (disch := first | assumption | omega | decide | exact b2i_01 _) only [up_eq, up_ne2] at c
  have hn : 700 ≤ by3 (D k 0) 1000 1400 700 ∧ by3 (D k 0) 1000 1400 700 ≤ 1400 := by
    rcases @by3_cases (D k 0) 1000 1400 700 with e | e | e <;> rw [e] <;> omega
  have hc := curF_b (nom := by3 (D k 0) 1000 1400 700) (life := D k 2) (wear := D k 3 + 1) (by omega) (by omega) (by omega) h3
  have hm : 0 ≤ lim * by3 (D k 0) 1000 1400 700 ∧ lim * by3 (D k 0) 1000 1400 700 ≤ 140000 := by
    constructor
    · exact Int.mul_nonneg hl1 (by omega)
    · have := Int.mul_le_mul hl2 hn.2 (by omega) (by omega : (0 : Int) ≤ 100)
      omega
  generalize hN : by3 (D k 0) 1000 1400 700 = N at hr c hn hc hm
  generalize hC : curF N (D k 2) (D k 3 + 1) = C at c hc
  have hB : gwB D k lim = if 100 * C < lim * N then D k 4 + 1 else 0 := by unfold gwB; rw [hN, hC]
  unfold gwD
  rw [hB]
  by_cases q1 : 100 * C < lim * N
  · simp only [if_pos q1]
    rcases h9 with h9 | h9
    · simp only [h9, if_true, true_and]
      by_cases q2 : pat ≤ D k 4 + 1
      · have q2' : ¬ D k 4 + 1 < pat := by omega
        rw [b2i_t q2]
        simp (disch := first | assumption | omega | decide | exact b2i_01 _) only [s34_0, s34_1, s34_2, s34_5, s34_6, s34_7, s34_10, s34_12, s34_13, s34_16, s34_17, s34_18, s34_21, s34_22, s34_25, s34_28, s34_29, s34_32, s34_33, s34_36, s34_37, s34_38, s34_39, s34_40, s34_43, s34_44, s34_47, s34_48, s34_49, s34_52, s34_53, s34_56, s34_57, s34_60, s34_63, s34_64, s34_67, s34_68, s34_71, s34_72, s34_75, s34_76, s34_78, s34_79, s34_80, s34_83, s34_86, s34_88, s34_91, s34_92, s34_95, s34_96, s34_99, s34_101, kont_some, kont_none, w32_of, if_true, if_false, b2i_eq0, ite_not, up_eq, up_ne2, up_ne1, tdv, tmd, c, c51, hr, if_pos q1, if_neg q2', h9, if_neg (show ¬ (1 : Int) = 0 by decide)]
      · have q2' : D k 4 + 1 < pat := by omega
        rw [b2i_f q2]
        simp (disch := first | assumption | omega | decide | exact b2i_01 _) only [s34_0, s34_1, s34_2, s34_5, s34_6, s34_7, s34_10, s34_12, s34_13, s34_16, s34_17, s34_18, s34_21, s34_22, s34_25, s34_28, s34_29, s34_32, s34_33, s34_36, s34_37, s34_38, s34_39, s34_40, s34_43, s34_44, s34_47, s34_48, s34_49, s34_52, s34_53, s34_56, s34_57, s34_60, s34_63, s34_64, s34_67, s34_68, s34_71, s34_72, s34_75, s34_76, s34_78, s34_79, s34_80, s34_83, s34_86, s34_88, s34_91, s34_92, s34_95, s34_96, s34_99, s34_101, kont_some, kont_none, w32_of, if_true, if_false, b2i_eq0, ite_not, up_eq, up_ne2, up_ne1, tdv, tmd, c, c51, hr, if_pos q1, if_pos q2', h9, if_neg (show ¬ (1 : Int) = 0 by decide)]
    · have z : ¬ (1 : Int) = 0 := by decide
      simp only [h9, if_neg z]
      rw [b2i_f (fun q => z q.1)]
      simp (disch := first | assumption | omega | decide | exact b2i_01 _) only [s34_0, s34_1, s34_2, s34_5, s34_6, s34_7, s34_10, s34_12, s34_13, s34_16, s34_17, s34_18, s34_21, s34_22, s34_25, s34_28, s34_29, s34_32, s34_33, s34_36, s34_37, s34_38, s34_39, s34_40, s34_43, s34_44, s34_47, s34_48, s34_49, s34_52, s34_53, s34_56, s34_57, s34_60, s34_63, s34_64, s34_67, s34_68, s34_71, s34_72, s34_75, s34_76, s34_78, s34_79, s34_80, s34_83, s34_86, s34_88, s34_91, s34_92, s34_95, s34_96, s34_99, s34_101, kont_some, kont_none, w32_of, if_true, if_false, b2i_eq0, ite_not, up_eq, up_ne2, up_ne1, tdv, tmd, c, c51, hr, if_pos q1, h9, if_neg z]
  · simp only [if_neg q1]
    rcases h9 with h9 | h9
    · simp only [h9, if_true, true_and]
      by_cases q2 : pat ≤ 0
      · have q2' : ¬ 0 < pat := by omega
        rw [b2i_t q2]
        simp (disch := first | assumption | omega | decide | exact b2i_01 _) only [s34_0, s34_1, s34_2, s34_5, s34_6, s34_7, s34_10, s34_12, s34_13, s34_16, s34_17, s34_18, s34_21, s34_22, s34_25, s34_28, s34_29, s34_32, s34_33, s34_36, s34_37, s34_38, s34_39, s34_40, s34_43, s34_44, s34_47, s34_48, s34_49, s34_52, s34_53, s34_56, s34_57, s34_60, s34_63, s34_64, s34_67, s34_68, s34_71, s34_72, s34_75, s34_76, s34_78, s34_79, s34_80, s34_83, s34_86, s34_88, s34_91, s34_92, s34_95, s34_96, s34_99, s34_101, kont_some, kont_none, w32_of, if_true, if_false, b2i_eq0, ite_not, up_eq, up_ne2, up_ne1, tdv, tmd, c, c51, hr, if_neg q1, if_neg q2', h9, if_neg (show ¬ (1 : Int) = 0 by decide)]
      · have q2' : 0 < pat := by omega
        rw [b2i_f q2]
        simp (disch := first | assumption | omega | decide | exact b2i_01 _) only [s34_0, s34_1, s34_2, s34_5, s34_6, s34_7, s34_10, s34_12, s34_13, s34_16, s34_17, s34_18, s34_21, s34_22, s34_25, s34_28, s34_29, s34_32, s34_33, s34_36, s34_37, s34_38, s34_39, s34_40, s34_43, s34_44, s34_47, s34_48, s34_49, s34_52, s34_53, s34_56, s34_57, s34_60, s34_63, s34_64, s34_67, s34_68, s34_71, s34_72, s34_75, s34_76, s34_78, s34_79, s34_80, s34_83, s34_86, s34_88, s34_91, s34_92, s34_95, s34_96, s34_99, s34_101, kont_some, kont_none, w32_of, if_true, if_false, b2i_eq0, ite_not, up_eq, up_ne2, up_ne1, tdv, tmd, c, c51, hr, if_neg q1, if_pos q2', h9, if_neg (show ¬ (1 : Int) = 0 by decide)]
    · have z : ¬ (1 : Int) = 0 := by decide
      simp only [h9, if_neg z]
      rw [b2i_f (fun q => z q.1)]
      simp (disch := first | assumption | omega | decide | exact b2i_01 _) only [s34_0, s34_1, s34_2, s34_5, s34_6, s34_7, s34_10, s34_12, s34_13, s34_16, s34_17, s34_18, s34_21, s34_22, s34_25, s34_28, s34_29, s34_32, s34_33, s34_36, s34_37, s34_38, s34_39, s34_40, s34_43, s34_44, s34_47, s34_48, s34_49, s34_52, s34_53, s34_56, s34_57, s34_60, s34_63, s34_64, s34_67, s34_68, s34_71, s34_72, s34_75, s34_76, s34_78, s34_79, s34_80, s34_83, s34_86, s34_88, s34_91, s34_92, s34_95, s34_96, s34_99, s34_101, kont_some, kont_none, w32_of, if_true, if_false, b2i_eq0, ite_not, up_eq, up_ne2, up_ne1, tdv, tmd, c, c51, hr, if_neg q1, h9, if_neg z]
end SPEC45
