/-! a state recorded, from the start -/
section SPEC60
variable {S : List Int} {D E : eD} {h : eH} {Q : Option eV → eH → Prop} {F P : eRow} {n : Int}
theorem c20b (h1 : ¬ D 70 1 = 4) : wp 20 0 [.inr (.inl 70), .inr (.inl 9), .inr (.inl 0)] [] (hp S D) Q ↔ wp 20 30 [.inr (.inl 70), .inr (.inl 9), .inr (.inl 0)] [] (hp S D) Q := by
  have t1 : tg 70 = 2 := rfl
  simp (disch := first | assumption | omega | decide | exact b2i_01 _ | (unfold lx; omega)) only [s20_0, s20_1, s20_4, s20_5, s20_8, s20_9, s20_10, s20_13, s20_14, s20_15, s20_16, s20_17, s20_20, s20_21, s20_22, s20_25, s20_26, s20_27, kont_some, kont_none, w32_of, if_true, if_false, tdv, tmd, setA_eq, up_setA, rd_hi, Int.reduceToNat, if_neg (show ¬ (1 : Int) = 0 by decide), if_neg h1]
theorem c20c (h1 : D 70 1 = 4) (h2 : 0 ≤ D 70 2 ∧ D 70 2 ≤ 3) : wp 20 0 [.inr (.inl 70), .inr (.inl 9), .inr (.inl 0)] [] (hp S D) Q ↔ wp 20 30 [.inr (.inl 70), .inr (.inl 9), .inr (.inl 0)] [] (hp S (up (up D 70 2 ((D 70 2 + 1) % 4)) 70 1 3)) Q := by
  have t1 : tg 70 = 2 := rfl
  simp (disch := first | assumption | omega | decide | exact b2i_01 _ | (unfold lx; omega)) only [s20_0, s20_1, s20_4, s20_5, s20_8, s20_9, s20_10, s20_13, s20_14, s20_15, s20_16, s20_17, s20_20, s20_21, s20_22, s20_25, s20_26, s20_27, kont_some, kont_none, w32_of, if_true, if_false, tdv, tmd, setA_eq, up_setA, rd_hi, Int.reduceToNat, if_neg (show ¬ (1 : Int) = 0 by decide), if_pos h1, up_ne2, h1, Int.reduceSub]
end SPEC60
