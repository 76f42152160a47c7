section ESTEP
variable {l0 l1 l2 l3 l4 l5 l6 l7 l8 l9 v0 v1 v2 v3 v4 v5 v6 v7 p q p0 p1 p2 p3 : eV} {a a0 a1 a2 a3 : Nat} {x z x0 x1 x2 x3 x4 x5 : Int} {w w0 w1 w2 w3 : Int64} {h : eH} {Q : Option eV → eH → Prop} {S : List Int} {D : eD}
theorem s82_0  : wp 82 0 [l0, .inl x, l2, l3] [] h Q ↔ wp 82 1 [l0, .inl x, l2, l3] [.inl x] h Q := wp_step dX8_lamp_0 (fun _ => rfl)
theorem s82_1  : wp 82 1 [l0, l1, l2, l3] [.inl x0] h Q ↔ wp 94 0 [.inl x0] [] h (kont 82 4 [l0, l1, l2, l3] [] Q) := w_callS (y2 := 94) (kd := 0) (vs := [.inl x0]) (st := []) dX8_lamp_1 (by decide +kernel) (by decide) rfl (by decide +kernel) (Nat.le_of_ble_eq_true rfl) (eSm_4 (by simp))
theorem s82_4  : wp 82 4 [l0, l1, l2, l3] [.inl x] h Q ↔ if x = 0 then wp 82 7 [l0, l1, l2, l3] [] h Q else wp 82 9 [l0, l1, l2, l3] [] h Q := w_ne0 dX8_lamp_4 (by decide)
theorem s82_7  : wp 82 7 [l0, l1, l2, l3] [] h Q ↔ wp 82 8 [l0, l1, l2, l3] [.inl (-1)] h Q := w_const1 dX8_lamp_7 k_m1
theorem s82_8  : wp 82 8 [l0, l1, l2, l3] [.inl x] h Q ↔ Q (some (.inl x)) h := w_reti dX8_lamp_8 (e_ri (by decide +kernel))
theorem s82_9  : wp 82 9 [l0, l1, .inl x, l3] [] h Q ↔ wp 82 10 [l0, l1, .inl x, l3] [.inl x] h Q := wp_step dX8_lamp_9 (fun _ => rfl)
theorem s82_10  : wp 82 10 [l0, l1, l2, l3] [v0] h Q ↔ wp 82 11 [l0, l1, l2, l3] [.inl 0, v0] h Q := w_const1 dX8_lamp_10 k_0
theorem s82_11  : wp 82 11 [l0, l1, l2, l3] [v0, v1] h Q ↔ wp 82 13 [l0, l1, l2, l3] [.inl 7, v0, v1] h Q := w_const2 dX8_lamp_11 k_7 k8_7
theorem s82_13  : wp 82 13 [l0, l1, l2, l3] [.inl x2, .inl x1, .inl x0] h Q ↔ wp 91 0 [.inl x0, .inl x1, .inl x2] [] h (kont 82 16 [l0, l1, l2, l3] [] Q) := w_callS (y2 := 91) (kd := 0) (vs := [.inl x0, .inl x1, .inl x2]) (st := []) dX8_lamp_13 (by decide +kernel) (by decide) rfl (by decide +kernel) (Nat.le_of_ble_eq_true rfl) (eSm_4 (by simp))
theorem s82_16  : wp 82 16 [l0, l1, l2, l3] [.inl x] h Q ↔ if x = 0 then wp 82 19 [l0, l1, l2, l3] [] h Q else wp 82 22 [l0, l1, l2, l3] [] h Q := w_ne0 dX8_lamp_16 (by decide)
theorem s82_19  : wp 82 19 [l0, l1, l2, l3] [] h Q ↔ wp 82 21 [l0, l1, l2, l3] [.inl (-2)] h Q := w_const2 dX8_lamp_19 k_m2 k8_m2
theorem s82_21  : wp 82 21 [l0, l1, l2, l3] [.inl x] h Q ↔ Q (some (.inl x)) h := w_reti dX8_lamp_21 (e_ri (by decide +kernel))
theorem s82_22 (h0 : a ≠ 0) : wp 82 22 [.inr (.inl a), l1, l2, l3] [] h Q ↔ wp 82 23 [.inr (.inl a), l1, l2, l3] [.inr (.inl a)] h Q := wp_step dX8_lamp_22 (fun _ => if_neg h0)
theorem s82_23 (ha : tg a = 7) : wp 82 23 [l0, l1, l2, l3] [.inr (.inl a)] (hp S D) Q ↔ wp 82 26 [l0, l1, l2, l3] [.inr (.inl (a + 1))] (hp S D) Q := w_getR dX8_lamp_23 (t := 7) (j := 0) (c := 2) (by decide +kernel) (by decide) rfl (ln_ok (by decide) (by decide)) ha
theorem s82_26 (ha : tg a = 0) : wp 82 26 [l0, l1, l2, l3] [.inr (.inl a)] (hp S D) Q ↔ wp 82 29 [l0, l1, l2, l3] [.inr (.inl (a + 3))] (hp S D) Q := w_getR dX8_lamp_26 (t := 0) (j := 2) (c := 2) (by decide +kernel) (by decide) rfl (ln_ok (by decide) (by decide)) ha
theorem s82_29  : wp 82 29 [l0, .inl x, l2, l3] [v0] h Q ↔ wp 82 30 [l0, .inl x, l2, l3] [.inl x, v0] h Q := wp_step dX8_lamp_29 (fun _ => rfl)
theorem s82_30 (ha : tg a = 6) : wp 82 30 [l0, l1, l2, l3] [.inl x0, .inr (.inl a)] (hp S D) Q ↔ wp 56 0 [.inr (.inl a), .inl x0, .inr (.inl 0)] [] (hp S D) (kont 82 33 [l0, l1, l2, l3] [] Q) := w_callV (y2 := 56) (vs := [.inl x0]) (st := []) dX8_lamp_30 (by decide +kernel) rfl (by decide +kernel) (Nat.le_of_ble_eq_true rfl) (eSm_4 (by simp)) 6 rfl (by decide) ha
theorem s82_33 (h0 : a ≠ 0) : wp 82 33 [l0, l1, l2, l3] [.inr (.inl a)] h Q ↔ wp 82 34 [l0, l1, l2, .inr (.inl a)] [] h Q := wp_step dX8_lamp_33 (fun _ => (if_neg h0).trans rfl)
theorem s82_34 (h0 : a ≠ 0) : wp 82 34 [l0, l1, l2, .inr (.inl a)] [] h Q ↔ wp 82 35 [l0, l1, l2, .inr (.inl a)] [.inr (.inl a)] h Q := wp_step dX8_lamp_34 (fun _ => if_neg h0)
theorem s82_35 (ha : tg a = 3) : wp 82 35 [l0, l1, l2, l3] [.inr (.inl a)] (hp S D) Q ↔ wp 27 0 [.inr (.inl a)] [] (hp S D) (kont 82 38 [l0, l1, l2, l3] [] Q) := w_callV (y2 := 27) (vs := []) (st := []) dX8_lamp_35 (by decide +kernel) rfl (by decide +kernel) (Nat.le_of_ble_eq_true rfl) (eSm_4 (by simp)) 3 rfl (by decide) ha
theorem s82_38  : wp 82 38 [l0, l1, l2, l3] [.inl x] h Q ↔ if x = 0 then wp 82 41 [l0, l1, l2, l3] [] h Q else wp 82 44 [l0, l1, l2, l3] [] h Q := w_ne0 dX8_lamp_38 (by decide)
theorem s82_41  : wp 82 41 [l0, l1, l2, l3] [] h Q ↔ wp 82 43 [l0, l1, l2, l3] [.inl (-5)] h Q := w_const2 dX8_lamp_41 k_m5 k8_m5
theorem s82_43  : wp 82 43 [l0, l1, l2, l3] [.inl x] h Q ↔ Q (some (.inl x)) h := w_reti dX8_lamp_43 (e_ri (by decide +kernel))
theorem s82_44  : wp 82 44 [l0, l1, .inl x, l3] [] h Q ↔ wp 82 45 [l0, l1, .inl x, l3] [.inl x] h Q := wp_step dX8_lamp_44 (fun _ => rfl)
theorem s82_45  : wp 82 45 [l0, l1, l2, l3] [.inl x] h Q ↔ if x = 0 then wp 82 88 [l0, l1, l2, l3] [] h Q else if x = 1 then wp 82 93 [l0, l1, l2, l3] [] h Q else if x = 2 then wp 82 98 [l0, l1, l2, l3] [] h Q else if x = 3 then wp 82 103 [l0, l1, l2, l3] [] h Q else if x = 4 then wp 82 108 [l0, l1, l2, l3] [] h Q else if x = 5 then wp 82 113 [l0, l1, l2, l3] [] h Q else if x = 6 then wp 82 121 [l0, l1, l2, l3] [] h Q else wp 82 129 [l0, l1, l2, l3] [] h Q := by
  have T := w_table (y := 82) (ls := [l0, l1, l2, l3]) (st := []) (h := h) (Q := Q) (x := x) (fun i => ([88, 93, 98, 103, 108, 113, 121] : List Nat).getD i 0) dX8_lamp_45 129 (by decide) (by
    intro i hi
    rcases (show i = 0 ∨ i = 1 ∨ i = 2 ∨ i = 3 ∨ i = 4 ∨ i = 5 ∨ i = 6 by omega) with rfl | rfl | rfl | rfl | rfl | rfl | rfl <;> exact ⟨_, rfl, by decide⟩)
  rw [T]
  by_cases hc : x < 0 ∨ 6 < x
  · rw [if_pos hc]
    rw [if_neg (show ¬ x = 0 by omega), if_neg (show ¬ x = 1 by omega), if_neg (show ¬ x = 2 by omega), if_neg (show ¬ x = 3 by omega), if_neg (show ¬ x = 4 by omega), if_neg (show ¬ x = 5 by omega), if_neg (show ¬ x = 6 by omega)]
  · rw [if_neg hc]
    rcases (show x = 0 ∨ x = 1 ∨ x = 2 ∨ x = 3 ∨ x = 4 ∨ x = 5 ∨ x = 6 by omega) with rfl | rfl | rfl | rfl | rfl | rfl | rfl <;> simp
theorem s82_88 (h0 : a ≠ 0) : wp 82 88 [l0, l1, l2, .inr (.inl a)] [] h Q ↔ wp 82 89 [l0, l1, l2, .inr (.inl a)] [.inr (.inl a)] h Q := wp_step dX8_lamp_88 (fun _ => if_neg h0)
theorem s82_89 (ha : tg a = 3) : wp 82 89 [l0, l1, l2, l3] [.inr (.inl a)] (hp S D) Q ↔ wp 82 92 [l0, l1, l2, l3] [.inl (D a 0)] (hp S D) Q := w_getI dX8_lamp_89 (t := 3) (j := 0) (c := 0) (by decide +kernel) (by decide) rfl (ln_ok (by decide) (by decide)) ha
theorem s82_92  : wp 82 92 [l0, l1, l2, l3] [.inl x] h Q ↔ Q (some (.inl x)) h := w_reti dX8_lamp_92 (e_ri (by decide +kernel))
theorem s82_93 (h0 : a ≠ 0) : wp 82 93 [l0, l1, l2, .inr (.inl a)] [] h Q ↔ wp 82 94 [l0, l1, l2, .inr (.inl a)] [.inr (.inl a)] h Q := wp_step dX8_lamp_93 (fun _ => if_neg h0)
theorem s82_94 (ha : tg a = 3) : wp 82 94 [l0, l1, l2, l3] [.inr (.inl a)] (hp S D) Q ↔ wp 82 97 [l0, l1, l2, l3] [.inl (D a 1)] (hp S D) Q := w_getI dX8_lamp_94 (t := 3) (j := 1) (c := 0) (by decide +kernel) (by decide) rfl (ln_ok (by decide) (by decide)) ha
theorem s82_97  : wp 82 97 [l0, l1, l2, l3] [.inl x] h Q ↔ Q (some (.inl x)) h := w_reti dX8_lamp_97 (e_ri (by decide +kernel))
theorem s82_98 (h0 : a ≠ 0) : wp 82 98 [l0, l1, l2, .inr (.inl a)] [] h Q ↔ wp 82 99 [l0, l1, l2, .inr (.inl a)] [.inr (.inl a)] h Q := wp_step dX8_lamp_98 (fun _ => if_neg h0)
theorem s82_99 (ha : tg a = 3) : wp 82 99 [l0, l1, l2, l3] [.inr (.inl a)] (hp S D) Q ↔ wp 82 102 [l0, l1, l2, l3] [.inl (D a 3)] (hp S D) Q := w_getI dX8_lamp_99 (t := 3) (j := 3) (c := 0) (by decide +kernel) (by decide) rfl (ln_ok (by decide) (by decide)) ha
theorem s82_102  : wp 82 102 [l0, l1, l2, l3] [.inl x] h Q ↔ Q (some (.inl x)) h := w_reti dX8_lamp_102 (e_ri (by decide +kernel))
theorem s82_103 (h0 : a ≠ 0) : wp 82 103 [l0, l1, l2, .inr (.inl a)] [] h Q ↔ wp 82 104 [l0, l1, l2, .inr (.inl a)] [.inr (.inl a)] h Q := wp_step dX8_lamp_103 (fun _ => if_neg h0)
theorem s82_104 (ha : tg a = 3) : wp 82 104 [l0, l1, l2, l3] [.inr (.inl a)] (hp S D) Q ↔ wp 82 107 [l0, l1, l2, l3] [.inl (D a 2)] (hp S D) Q := w_getI dX8_lamp_104 (t := 3) (j := 2) (c := 0) (by decide +kernel) (by decide) rfl (ln_ok (by decide) (by decide)) ha
theorem s82_107  : wp 82 107 [l0, l1, l2, l3] [.inl x] h Q ↔ Q (some (.inl x)) h := w_reti dX8_lamp_107 (e_ri (by decide +kernel))
theorem s82_108 (h0 : a ≠ 0) : wp 82 108 [l0, l1, l2, .inr (.inl a)] [] h Q ↔ wp 82 109 [l0, l1, l2, .inr (.inl a)] [.inr (.inl a)] h Q := wp_step dX8_lamp_108 (fun _ => if_neg h0)
theorem s82_109 (ha : tg a = 3) : wp 82 109 [l0, l1, l2, l3] [.inr (.inl a)] (hp S D) Q ↔ wp 32 0 [.inr (.inl a), .inr (.inl 0)] [] (hp S D) (kont 82 112 [l0, l1, l2, l3] [] Q) := w_callV (y2 := 32) (vs := []) (st := []) dX8_lamp_109 (by decide +kernel) rfl (by decide +kernel) (Nat.le_of_ble_eq_true rfl) (eSm_4 (by simp)) 3 rfl (by decide) ha
theorem s82_112  : wp 82 112 [l0, l1, l2, l3] [.inl x] h Q ↔ Q (some (.inl x)) h := w_reti dX8_lamp_112 (e_ri (by decide +kernel))
theorem s82_113 (h0 : a ≠ 0) : wp 82 113 [l0, l1, l2, .inr (.inl a)] [] h Q ↔ wp 82 114 [l0, l1, l2, .inr (.inl a)] [.inr (.inl a)] h Q := wp_step dX8_lamp_113 (fun _ => if_neg h0)
theorem s82_114 (ha : tg a = 3) : wp 82 114 [l0, l1, l2, l3] [.inr (.inl a)] (hp S D) Q ↔ wp 82 117 [l0, l1, l2, l3] [.inl (D a 5)] (hp S D) Q := w_getI dX8_lamp_114 (t := 3) (j := 5) (c := 1) (by decide +kernel) (by decide) rfl (ln_ok (by decide) (by decide)) ha
theorem s82_117  : wp 82 117 [l0, l1, l2, l3] [.inl x0] h Q ↔ wp 97 0 [.inl x0] [] h (kont 82 120 [l0, l1, l2, l3] [] Q) := w_callS (y2 := 97) (kd := 0) (vs := [.inl x0]) (st := []) dX8_lamp_117 (by decide +kernel) (by decide) rfl (by decide +kernel) (Nat.le_of_ble_eq_true rfl) (eSm_4 (by simp))
theorem s82_120  : wp 82 120 [l0, l1, l2, l3] [.inl x] h Q ↔ Q (some (.inl x)) h := w_reti dX8_lamp_120 (e_ri (by decide +kernel))
theorem s82_121 (h0 : a ≠ 0) : wp 82 121 [l0, l1, l2, .inr (.inl a)] [] h Q ↔ wp 82 122 [l0, l1, l2, .inr (.inl a)] [.inr (.inl a)] h Q := wp_step dX8_lamp_121 (fun _ => if_neg h0)
theorem s82_122 (ha : tg a = 3) : wp 82 122 [l0, l1, l2, l3] [.inr (.inl a)] (hp S D) Q ↔ wp 28 0 [.inr (.inl a)] [] (hp S D) (kont 82 125 [l0, l1, l2, l3] [] Q) := w_callV (y2 := 28) (vs := []) (st := []) dX8_lamp_122 (by decide +kernel) rfl (by decide +kernel) (Nat.le_of_ble_eq_true rfl) (eSm_4 (by simp)) 3 rfl (by decide) ha
theorem s82_125  : wp 82 125 [l0, l1, l2, l3] [.inl x0] h Q ↔ wp 97 0 [.inl x0] [] h (kont 82 128 [l0, l1, l2, l3] [] Q) := w_callS (y2 := 97) (kd := 0) (vs := [.inl x0]) (st := []) dX8_lamp_125 (by decide +kernel) (by decide) rfl (by decide +kernel) (Nat.le_of_ble_eq_true rfl) (eSm_4 (by simp))
theorem s82_128  : wp 82 128 [l0, l1, l2, l3] [.inl x] h Q ↔ Q (some (.inl x)) h := w_reti dX8_lamp_128 (e_ri (by decide +kernel))
theorem s82_129 (h0 : a ≠ 0) : wp 82 129 [l0, l1, l2, .inr (.inl a)] [] h Q ↔ wp 82 130 [l0, l1, l2, .inr (.inl a)] [.inr (.inl a)] h Q := wp_step dX8_lamp_129 (fun _ => if_neg h0)
theorem s82_130 (ha : tg a = 3) : wp 82 130 [l0, l1, l2, l3] [.inr (.inl a)] (hp S D) Q ↔ wp 82 133 [l0, l1, l2, l3] [.inl (D a 4)] (hp S D) Q := w_getI dX8_lamp_130 (t := 3) (j := 4) (c := 0) (by decide +kernel) (by decide) rfl (ln_ok (by decide) (by decide)) ha
theorem s82_133  : wp 82 133 [l0, l1, l2, l3] [.inl x] h Q ↔ Q (some (.inl x)) h := w_reti dX8_lamp_133 (e_ri (by decide +kernel))
theorem s83_0  : wp 83 0 [l0, .inl x] [] h Q ↔ wp 83 1 [l0, .inl x] [.inl x] h Q := wp_step dX8_wheel_0 (fun _ => rfl)
theorem s83_1  : wp 83 1 [l0, l1] [.inl x] h Q ↔ if x = 0 then wp 83 48 [l0, l1] [] h Q else if x = 1 then wp 83 59 [l0, l1] [] h Q else if x = 2 then wp 83 70 [l0, l1] [] h Q else if x = 3 then wp 83 81 [l0, l1] [] h Q else if x = 4 then wp 83 95 [l0, l1] [] h Q else if x = 5 then wp 83 106 [l0, l1] [] h Q else if x = 6 then wp 83 117 [l0, l1] [] h Q else if x = 7 then wp 83 125 [l0, l1] [] h Q else wp 83 133 [l0, l1] [] h Q := by
  have T := w_table (y := 83) (ls := [l0, l1]) (st := []) (h := h) (Q := Q) (x := x) (fun i => ([48, 59, 70, 81, 95, 106, 117, 125] : List Nat).getD i 0) dX8_wheel_1 133 (by decide) (by
    intro i hi
    rcases (show i = 0 ∨ i = 1 ∨ i = 2 ∨ i = 3 ∨ i = 4 ∨ i = 5 ∨ i = 6 ∨ i = 7 by omega) with rfl | rfl | rfl | rfl | rfl | rfl | rfl | rfl <;> exact ⟨_, rfl, by decide⟩)
  rw [T]
  by_cases hc : x < 0 ∨ 7 < x
  · rw [if_pos hc]
    rw [if_neg (show ¬ x = 0 by omega), if_neg (show ¬ x = 1 by omega), if_neg (show ¬ x = 2 by omega), if_neg (show ¬ x = 3 by omega), if_neg (show ¬ x = 4 by omega), if_neg (show ¬ x = 5 by omega), if_neg (show ¬ x = 6 by omega), if_neg (show ¬ x = 7 by omega)]
  · rw [if_neg hc]
    rcases (show x = 0 ∨ x = 1 ∨ x = 2 ∨ x = 3 ∨ x = 4 ∨ x = 5 ∨ x = 6 ∨ x = 7 by omega) with rfl | rfl | rfl | rfl | rfl | rfl | rfl | rfl <;> simp
theorem s83_48 (h0 : a ≠ 0) : wp 83 48 [.inr (.inl a), l1] [] h Q ↔ wp 83 49 [.inr (.inl a), l1] [.inr (.inl a)] h Q := wp_step dX8_wheel_48 (fun _ => if_neg h0)
theorem s83_49 (ha : tg a = 7) : wp 83 49 [l0, l1] [.inr (.inl a)] (hp S D) Q ↔ wp 83 52 [l0, l1] [.inr (.inl (a + 1))] (hp S D) Q := w_getR dX8_wheel_49 (t := 7) (j := 0) (c := 2) (by decide +kernel) (by decide) rfl (ln_ok (by decide) (by decide)) ha
theorem s83_52 (ha : tg a = 0) : wp 83 52 [l0, l1] [.inr (.inl a)] (hp S D) Q ↔ wp 83 55 [l0, l1] [.inr (.inl (a + 3))] (hp S D) Q := w_getR dX8_wheel_52 (t := 0) (j := 2) (c := 2) (by decide +kernel) (by decide) rfl (ln_ok (by decide) (by decide)) ha
theorem s83_55 (ha : tg a = 6) : wp 83 55 [l0, l1] [.inr (.inl a)] (hp S D) Q ↔ wp 83 58 [l0, l1] [.inl (D a 2)] (hp S D) Q := w_getI dX8_wheel_55 (t := 6) (j := 2) (c := 0) (by decide +kernel) (by decide) rfl (ln_ok (by decide) (by decide)) ha
theorem s83_58  : wp 83 58 [l0, l1] [.inl x] h Q ↔ Q (some (.inl x)) h := w_reti dX8_wheel_58 (e_ri (by decide +kernel))
theorem s83_59 (h0 : a ≠ 0) : wp 83 59 [.inr (.inl a), l1] [] h Q ↔ wp 83 60 [.inr (.inl a), l1] [.inr (.inl a)] h Q := wp_step dX8_wheel_59 (fun _ => if_neg h0)
theorem s83_60 (ha : tg a = 7) : wp 83 60 [l0, l1] [.inr (.inl a)] (hp S D) Q ↔ wp 83 63 [l0, l1] [.inr (.inl (a + 1))] (hp S D) Q := w_getR dX8_wheel_60 (t := 7) (j := 0) (c := 2) (by decide +kernel) (by decide) rfl (ln_ok (by decide) (by decide)) ha
theorem s83_63 (ha : tg a = 0) : wp 83 63 [l0, l1] [.inr (.inl a)] (hp S D) Q ↔ wp 83 66 [l0, l1] [.inr (.inl (a + 3))] (hp S D) Q := w_getR dX8_wheel_63 (t := 0) (j := 2) (c := 2) (by decide +kernel) (by decide) rfl (ln_ok (by decide) (by decide)) ha
theorem s83_66 (ha : tg a = 6) : wp 83 66 [l0, l1] [.inr (.inl a)] (hp S D) Q ↔ wp 83 69 [l0, l1] [.inl (D a 3)] (hp S D) Q := w_getI dX8_wheel_66 (t := 6) (j := 3) (c := 0) (by decide +kernel) (by decide) rfl (ln_ok (by decide) (by decide)) ha
theorem s83_69  : wp 83 69 [l0, l1] [.inl x] h Q ↔ Q (some (.inl x)) h := w_reti dX8_wheel_69 (e_ri (by decide +kernel))
theorem s83_70 (h0 : a ≠ 0) : wp 83 70 [.inr (.inl a), l1] [] h Q ↔ wp 83 71 [.inr (.inl a), l1] [.inr (.inl a)] h Q := wp_step dX8_wheel_70 (fun _ => if_neg h0)
theorem s83_71 (ha : tg a = 7) : wp 83 71 [l0, l1] [.inr (.inl a)] (hp S D) Q ↔ wp 83 74 [l0, l1] [.inr (.inl (a + 1))] (hp S D) Q := w_getR dX8_wheel_71 (t := 7) (j := 0) (c := 2) (by decide +kernel) (by decide) rfl (ln_ok (by decide) (by decide)) ha
theorem s83_74 (ha : tg a = 0) : wp 83 74 [l0, l1] [.inr (.inl a)] (hp S D) Q ↔ wp 83 77 [l0, l1] [.inr (.inl (a + 3))] (hp S D) Q := w_getR dX8_wheel_74 (t := 0) (j := 2) (c := 2) (by decide +kernel) (by decide) rfl (ln_ok (by decide) (by decide)) ha
theorem s83_77 (ha : tg a = 6) : wp 83 77 [l0, l1] [.inr (.inl a)] (hp S D) Q ↔ wp 83 80 [l0, l1] [.inl (D a 4)] (hp S D) Q := w_getI dX8_wheel_77 (t := 6) (j := 4) (c := 0) (by decide +kernel) (by decide) rfl (ln_ok (by decide) (by decide)) ha
theorem s83_80  : wp 83 80 [l0, l1] [.inl x] h Q ↔ Q (some (.inl x)) h := w_reti dX8_wheel_80 (e_ri (by decide +kernel))
theorem s83_81 (h0 : a ≠ 0) : wp 83 81 [.inr (.inl a), l1] [] h Q ↔ wp 83 82 [.inr (.inl a), l1] [.inr (.inl a)] h Q := wp_step dX8_wheel_81 (fun _ => if_neg h0)
theorem s83_82 (ha : tg a = 7) : wp 83 82 [l0, l1] [.inr (.inl a)] (hp S D) Q ↔ wp 83 85 [l0, l1] [.inr (.inl (a + 1))] (hp S D) Q := w_getR dX8_wheel_82 (t := 7) (j := 0) (c := 2) (by decide +kernel) (by decide) rfl (ln_ok (by decide) (by decide)) ha
theorem s83_85 (ha : tg a = 0) : wp 83 85 [l0, l1] [.inr (.inl a)] (hp S D) Q ↔ wp 83 88 [l0, l1] [.inr (.inl (a + 3))] (hp S D) Q := w_getR dX8_wheel_85 (t := 0) (j := 2) (c := 2) (by decide +kernel) (by decide) rfl (ln_ok (by decide) (by decide)) ha
theorem s83_88 (ha : tg a = 6) : wp 83 88 [l0, l1] [.inr (.inl a)] (hp S D) Q ↔ wp 83 91 [l0, l1] [.inl (D a 5)] (hp S D) Q := w_getI dX8_wheel_88 (t := 6) (j := 5) (c := 1) (by decide +kernel) (by decide) rfl (ln_ok (by decide) (by decide)) ha
theorem s83_91  : wp 83 91 [l0, l1] [.inl x0] h Q ↔ wp 97 0 [.inl x0] [] h (kont 83 94 [l0, l1] [] Q) := w_callS (y2 := 97) (kd := 0) (vs := [.inl x0]) (st := []) dX8_wheel_91 (by decide +kernel) (by decide) rfl (by decide +kernel) (Nat.le_of_ble_eq_true rfl) (eSm_4 (by simp))
theorem s83_94  : wp 83 94 [l0, l1] [.inl x] h Q ↔ Q (some (.inl x)) h := w_reti dX8_wheel_94 (e_ri (by decide +kernel))
theorem s83_95 (h0 : a ≠ 0) : wp 83 95 [.inr (.inl a), l1] [] h Q ↔ wp 83 96 [.inr (.inl a), l1] [.inr (.inl a)] h Q := wp_step dX8_wheel_95 (fun _ => if_neg h0)
theorem s83_96 (ha : tg a = 7) : wp 83 96 [l0, l1] [.inr (.inl a)] (hp S D) Q ↔ wp 83 99 [l0, l1] [.inr (.inl (a + 1))] (hp S D) Q := w_getR dX8_wheel_96 (t := 7) (j := 0) (c := 2) (by decide +kernel) (by decide) rfl (ln_ok (by decide) (by decide)) ha
theorem s83_99 (ha : tg a = 0) : wp 83 99 [l0, l1] [.inr (.inl a)] (hp S D) Q ↔ wp 3 0 [.inr (.inl a)] [] (hp S D) (kont 83 102 [l0, l1] [] Q) := w_callV (y2 := 3) (vs := []) (st := []) dX8_wheel_99 (by decide +kernel) rfl (by decide +kernel) (Nat.le_of_ble_eq_true rfl) (eSm_4 (by simp)) 0 rfl (by decide) ha
theorem s83_102  : wp 83 102 [l0, l1] [.inl x0] h Q ↔ wp 97 0 [.inl x0] [] h (kont 83 105 [l0, l1] [] Q) := w_callS (y2 := 97) (kd := 0) (vs := [.inl x0]) (st := []) dX8_wheel_102 (by decide +kernel) (by decide) rfl (by decide +kernel) (Nat.le_of_ble_eq_true rfl) (eSm_4 (by simp))
theorem s83_105  : wp 83 105 [l0, l1] [.inl x] h Q ↔ Q (some (.inl x)) h := w_reti dX8_wheel_105 (e_ri (by decide +kernel))
theorem s83_106 (h0 : a ≠ 0) : wp 83 106 [.inr (.inl a), l1] [] h Q ↔ wp 83 107 [.inr (.inl a), l1] [.inr (.inl a)] h Q := wp_step dX8_wheel_106 (fun _ => if_neg h0)
theorem s83_107 (ha : tg a = 7) : wp 83 107 [l0, l1] [.inr (.inl a)] (hp S D) Q ↔ wp 83 110 [l0, l1] [.inr (.inl (a + 1))] (hp S D) Q := w_getR dX8_wheel_107 (t := 7) (j := 0) (c := 2) (by decide +kernel) (by decide) rfl (ln_ok (by decide) (by decide)) ha
theorem s83_110 (ha : tg a = 0) : wp 83 110 [l0, l1] [.inr (.inl a)] (hp S D) Q ↔ wp 83 113 [l0, l1] [.inr (.inl (a + 3))] (hp S D) Q := w_getR dX8_wheel_110 (t := 0) (j := 2) (c := 2) (by decide +kernel) (by decide) rfl (ln_ok (by decide) (by decide)) ha
theorem s83_113 (ha : tg a = 6) : wp 83 113 [l0, l1] [.inr (.inl a)] (hp S D) Q ↔ wp 61 0 [.inr (.inl a), .inr (.inl 0), .inr (.inl 0), .inr (.inl 0), .inr (.inl 0)] [] (hp S D) (kont 83 116 [l0, l1] [] Q) := w_callV (y2 := 61) (vs := []) (st := []) dX8_wheel_113 (by decide +kernel) rfl (by decide +kernel) (Nat.le_of_ble_eq_true rfl) (eSm_4 (by simp)) 6 rfl (by decide) ha
theorem s83_116  : wp 83 116 [l0, l1] [.inl x] h Q ↔ Q (some (.inl x)) h := w_reti dX8_wheel_116 (e_ri (by decide +kernel))
theorem s83_117 (h0 : a ≠ 0) : wp 83 117 [.inr (.inl a), l1] [] h Q ↔ wp 83 118 [.inr (.inl a), l1] [.inr (.inl a)] h Q := wp_step dX8_wheel_117 (fun _ => if_neg h0)
theorem s83_118 (ha : tg a = 7) : wp 83 118 [l0, l1] [.inr (.inl a)] (hp S D) Q ↔ wp 83 121 [l0, l1] [.inr (.inl (a + 1))] (hp S D) Q := w_getR dX8_wheel_118 (t := 7) (j := 0) (c := 2) (by decide +kernel) (by decide) rfl (ln_ok (by decide) (by decide)) ha
theorem s83_121 (ha : tg a = 0) : wp 83 121 [l0, l1] [.inr (.inl a)] (hp S D) Q ↔ wp 83 124 [l0, l1] [.inl (D a 6)] (hp S D) Q := w_getI dX8_wheel_121 (t := 0) (j := 6) (c := 0) (by decide +kernel) (by decide) rfl (ln_ok (by decide) (by decide)) ha
theorem s83_124  : wp 83 124 [l0, l1] [.inl x] h Q ↔ Q (some (.inl x)) h := w_reti dX8_wheel_124 (e_ri (by decide +kernel))
theorem s83_125 (h0 : a ≠ 0) : wp 83 125 [.inr (.inl a), l1] [] h Q ↔ wp 83 126 [.inr (.inl a), l1] [.inr (.inl a)] h Q := wp_step dX8_wheel_125 (fun _ => if_neg h0)
theorem s83_126 (ha : tg a = 7) : wp 83 126 [l0, l1] [.inr (.inl a)] (hp S D) Q ↔ wp 83 129 [l0, l1] [.inr (.inl (a + 1))] (hp S D) Q := w_getR dX8_wheel_126 (t := 7) (j := 0) (c := 2) (by decide +kernel) (by decide) rfl (ln_ok (by decide) (by decide)) ha
theorem s83_129 (ha : tg a = 0) : wp 83 129 [l0, l1] [.inr (.inl a)] (hp S D) Q ↔ wp 83 132 [l0, l1] [.inl (D a 7)] (hp S D) Q := w_getI dX8_wheel_129 (t := 0) (j := 7) (c := 0) (by decide +kernel) (by decide) rfl (ln_ok (by decide) (by decide)) ha
theorem s83_132  : wp 83 132 [l0, l1] [.inl x] h Q ↔ Q (some (.inl x)) h := w_reti dX8_wheel_132 (e_ri (by decide +kernel))
theorem s83_133  : wp 83 133 [l0, l1] [] h Q ↔ wp 83 135 [l0, l1] [.inl (-2)] h Q := w_const2 dX8_wheel_133 k_m2 k8_m2
theorem s83_135  : wp 83 135 [l0, l1] [.inl x] h Q ↔ Q (some (.inl x)) h := w_reti dX8_wheel_135 (e_ri (by decide +kernel))
theorem s84_0  : wp 84 0 [l0, .inl x, l2, l3, l4, l5, l6] [] h Q ↔ wp 84 1 [l0, .inl x, l2, l3, l4, l5, l6] [.inl x] h Q := wp_step dX8_tiredIn_0 (fun _ => rfl)
theorem s84_1  : wp 84 1 [l0, l1, l2, l3, l4, l5, l6] [.inl x0] h Q ↔ wp 94 0 [.inl x0] [] h (kont 84 4 [l0, l1, l2, l3, l4, l5, l6] [] Q) := w_callS (y2 := 94) (kd := 0) (vs := [.inl x0]) (st := []) dX8_tiredIn_1 (by decide +kernel) (by decide) rfl (by decide +kernel) (Nat.le_of_ble_eq_true rfl) (eSm_4 (by simp))
theorem s84_4  : wp 84 4 [l0, l1, l2, l3, l4, l5, l6] [.inl x] h Q ↔ if x = 0 then wp 84 7 [l0, l1, l2, l3, l4, l5, l6] [] h Q else wp 84 9 [l0, l1, l2, l3, l4, l5, l6] [] h Q := w_ne0 dX8_tiredIn_4 (by decide)
theorem s84_7  : wp 84 7 [l0, l1, l2, l3, l4, l5, l6] [] h Q ↔ wp 84 8 [l0, l1, l2, l3, l4, l5, l6] [.inl (-1)] h Q := w_const1 dX8_tiredIn_7 k_m1
theorem s84_8  : wp 84 8 [l0, l1, l2, l3, l4, l5, l6] [.inl x] h Q ↔ Q (some (.inl x)) h := w_reti dX8_tiredIn_8 (e_ri (by decide +kernel))
theorem s84_9 (h0 : a ≠ 0) : wp 84 9 [.inr (.inl a), l1, l2, l3, l4, l5, l6] [] h Q ↔ wp 84 10 [.inr (.inl a), l1, l2, l3, l4, l5, l6] [.inr (.inl a)] h Q := wp_step dX8_tiredIn_9 (fun _ => if_neg h0)
theorem s84_10 (ha : tg a = 7) : wp 84 10 [l0, l1, l2, l3, l4, l5, l6] [.inr (.inl a)] (hp S D) Q ↔ wp 84 13 [l0, l1, l2, l3, l4, l5, l6] [.inr (.inl (a + 1))] (hp S D) Q := w_getR dX8_tiredIn_10 (t := 7) (j := 0) (c := 2) (by decide +kernel) (by decide) rfl (ln_ok (by decide) (by decide)) ha
theorem s84_13 (ha : tg a = 0) : wp 84 13 [l0, l1, l2, l3, l4, l5, l6] [.inr (.inl a)] (hp S D) Q ↔ wp 84 16 [l0, l1, l2, l3, l4, l5, l6] [.inr (.inl (a + 3))] (hp S D) Q := w_getR dX8_tiredIn_13 (t := 0) (j := 2) (c := 2) (by decide +kernel) (by decide) rfl (ln_ok (by decide) (by decide)) ha
theorem s84_16  : wp 84 16 [l0, .inl x, l2, l3, l4, l5, l6] [v0] h Q ↔ wp 84 17 [l0, .inl x, l2, l3, l4, l5, l6] [.inl x, v0] h Q := wp_step dX8_tiredIn_16 (fun _ => rfl)
theorem s84_17 (ha : tg a = 6) : wp 84 17 [l0, l1, l2, l3, l4, l5, l6] [.inl x0, .inr (.inl a)] (hp S D) Q ↔ wp 56 0 [.inr (.inl a), .inl x0, .inr (.inl 0)] [] (hp S D) (kont 84 20 [l0, l1, l2, l3, l4, l5, l6] [] Q) := w_callV (y2 := 56) (vs := [.inl x0]) (st := []) dX8_tiredIn_17 (by decide +kernel) rfl (by decide +kernel) (Nat.le_of_ble_eq_true rfl) (eSm_4 (by simp)) 6 rfl (by decide) ha
theorem s84_20 (h0 : a ≠ 0) : wp 84 20 [l0, l1, l2, l3, l4, l5, l6] [.inr (.inl a)] h Q ↔ wp 84 21 [l0, l1, .inr (.inl a), l3, l4, l5, l6] [] h Q := wp_step dX8_tiredIn_20 (fun _ => (if_neg h0).trans rfl)
theorem s84_21 (h0 : a ≠ 0) : wp 84 21 [l0, l1, .inr (.inl a), l3, l4, l5, l6] [] h Q ↔ wp 84 22 [l0, l1, .inr (.inl a), l3, l4, l5, l6] [.inr (.inl a)] h Q := wp_step dX8_tiredIn_21 (fun _ => if_neg h0)
theorem s84_22 (ha : tg a = 3) : wp 84 22 [l0, l1, l2, l3, l4, l5, l6] [.inr (.inl a)] (hp S D) Q ↔ wp 29 0 [.inr (.inl a)] [] (hp S D) (kont 84 25 [l0, l1, l2, l3, l4, l5, l6] [] Q) := w_callV (y2 := 29) (vs := []) (st := []) dX8_tiredIn_22 (by decide +kernel) rfl (by decide +kernel) (Nat.le_of_ble_eq_true rfl) (eSm_4 (by simp)) 3 rfl (by decide) ha
theorem s84_25  : wp 84 25 [l0, l1, l2, l3, l4, l5, l6] [.inl x] h Q ↔ if x = 0 then wp 84 28 [l0, l1, l2, l3, l4, l5, l6] [] h Q else wp 84 31 [l0, l1, l2, l3, l4, l5, l6] [] h Q := w_ne0 dX8_tiredIn_25 (by decide)
theorem s84_28  : wp 84 28 [l0, l1, l2, l3, l4, l5, l6] [] h Q ↔ wp 84 30 [l0, l1, l2, l3, l4, l5, l6] [.inl (-4)] h Q := w_const2 dX8_tiredIn_28 k_m4 k8_m4
theorem s84_30  : wp 84 30 [l0, l1, l2, l3, l4, l5, l6] [.inl x] h Q ↔ Q (some (.inl x)) h := w_reti dX8_tiredIn_30 (e_ri (by decide +kernel))
theorem s84_31 (h0 : a ≠ 0) : wp 84 31 [l0, l1, .inr (.inl a), l3, l4, l5, l6] [] h Q ↔ wp 84 32 [l0, l1, .inr (.inl a), l3, l4, l5, l6] [.inr (.inl a)] h Q := wp_step dX8_tiredIn_31 (fun _ => if_neg h0)
theorem s84_32 (ha : tg a = 3) : wp 84 32 [l0, l1, l2, l3, l4, l5, l6] [.inr (.inl a)] (hp S D) Q ↔ wp 84 35 [l0, l1, l2, l3, l4, l5, l6] [.inl (D a 5)] (hp S D) Q := w_getI dX8_tiredIn_32 (t := 3) (j := 5) (c := 1) (by decide +kernel) (by decide) rfl (ln_ok (by decide) (by decide)) ha
theorem s84_35  : wp 84 35 [l0, l1, l2, l3, l4, l5, l6] [.inl x] h Q ↔ if x = 0 then wp 84 40 [l0, l1, l2, l3, l4, l5, l6] [] h Q else wp 84 38 [l0, l1, l2, l3, l4, l5, l6] [] h Q := w_eq0 dX8_tiredIn_35 (by decide)
theorem s84_38  : wp 84 38 [l0, l1, l2, l3, l4, l5, l6] [] h Q ↔ wp 84 39 [l0, l1, l2, l3, l4, l5, l6] [.inl 0] h Q := w_const1 dX8_tiredIn_38 k_0
theorem s84_39  : wp 84 39 [l0, l1, l2, l3, l4, l5, l6] [.inl x] h Q ↔ Q (some (.inl x)) h := w_reti dX8_tiredIn_39 (e_ri (by decide +kernel))
theorem s84_40 (h0 : a ≠ 0) : wp 84 40 [.inr (.inl a), l1, l2, l3, l4, l5, l6] [] h Q ↔ wp 84 41 [.inr (.inl a), l1, l2, l3, l4, l5, l6] [.inr (.inl a)] h Q := wp_step dX8_tiredIn_40 (fun _ => if_neg h0)
theorem s84_41 (ha : tg a = 7) : wp 84 41 [l0, l1, l2, l3, l4, l5, l6] [.inr (.inl a)] (hp S D) Q ↔ wp 84 44 [l0, l1, l2, l3, l4, l5, l6] [.inr (.inl (a + 61))] (hp S D) Q := w_getR dX8_tiredIn_41 (t := 7) (j := 3) (c := 2) (by decide +kernel) (by decide) rfl (ln_ok (by decide) (by decide)) ha
theorem s84_44 (h0 : a ≠ 0) : wp 84 44 [l0, l1, .inr (.inl a), l3, l4, l5, l6] [v0] h Q ↔ wp 84 45 [l0, l1, .inr (.inl a), l3, l4, l5, l6] [.inr (.inl a), v0] h Q := wp_step dX8_tiredIn_44 (fun _ => if_neg h0)
theorem s84_45 (ha : tg a = 3) : wp 84 45 [l0, l1, l2, l3, l4, l5, l6] [.inr (.inl a0), .inr (.inl a)] (hp S D) Q ↔ wp 26 0 [.inr (.inl a), .inr (.inl a0)] [] (hp S D) (kont 84 48 [l0, l1, l2, l3, l4, l5, l6] [] Q) := w_callV (y2 := 26) (vs := [.inr (.inl a0)]) (st := []) dX8_tiredIn_45 (by decide +kernel) rfl (by decide +kernel) (Nat.le_of_ble_eq_true rfl) (eSm_4 (by simp)) 3 rfl (by decide) ha
theorem s84_48 (h0 : a ≠ 0) : wp 84 48 [.inr (.inl a), l1, l2, l3, l4, l5, l6] [] h Q ↔ wp 84 49 [.inr (.inl a), l1, l2, l3, l4, l5, l6] [.inr (.inl a)] h Q := wp_step dX8_tiredIn_48 (fun _ => if_neg h0)
theorem s84_49 (ha : tg a = 7) : wp 84 49 [l0, l1, l2, l3, l4, l5, l6] [.inr (.inl a)] (hp S D) Q ↔ wp 84 52 [l0, l1, l2, l3, l4, l5, l6] [.inr (.inl (a + 1))] (hp S D) Q := w_getR dX8_tiredIn_49 (t := 7) (j := 0) (c := 2) (by decide +kernel) (by decide) rfl (ln_ok (by decide) (by decide)) ha
theorem s84_52 (ha : tg a = 0) : wp 84 52 [l0, l1, l2, l3, l4, l5, l6] [.inr (.inl a)] (hp S D) Q ↔ wp 84 55 [l0, l1, l2, l3, l4, l5, l6] [.inr (.inl (a + 1))] (hp S D) Q := w_getR dX8_tiredIn_52 (t := 0) (j := 0) (c := 2) (by decide +kernel) (by decide) rfl (ln_ok (by decide) (by decide)) ha
theorem s84_55  : wp 84 55 [l0, l1, l2, l3, l4, l5, l6] [v0] h Q ↔ wp 84 56 [l0, l1, l2, l3, l4, l5, l6] [.inl 0, v0] h Q := w_const1 dX8_tiredIn_55 k_0
theorem s84_56  : wp 84 56 [l0, l1, l2, l3, l4, l5, l6] [.inl x1, .inr (.inl a0)] h Q ↔ wp 51 0 [.inr (.inl a0), .inl x1] [] h (kont 84 59 [l0, l1, l2, l3, l4, l5, l6] [] Q) := w_callS (y2 := 51) (kd := 0) (vs := [.inr (.inl a0), .inl x1]) (st := []) dX8_tiredIn_56 (by decide +kernel) (by decide) rfl (by decide +kernel) (Nat.le_of_ble_eq_true rfl) (eSm_4 (by simp))
theorem s84_59  : wp 84 59 [l0, l1, l2, l3, l4, l5, l6] [.inl x] h Q ↔ wp 84 60 [l0, l1, l2, .inl x, l4, l5, l6] [] h Q := wp_step dX8_tiredIn_59 (fun _ => rfl)
theorem s84_60 (h0 : a ≠ 0) : wp 84 60 [.inr (.inl a), l1, l2, l3, l4, l5, l6] [] h Q ↔ wp 84 61 [.inr (.inl a), l1, l2, l3, l4, l5, l6] [.inr (.inl a)] h Q := wp_step dX8_tiredIn_60 (fun _ => if_neg h0)
theorem s84_61 (ha : tg a = 7) : wp 84 61 [l0, l1, l2, l3, l4, l5, l6] [.inr (.inl a)] (hp S D) Q ↔ wp 84 64 [l0, l1, l2, l3, l4, l5, l6] [.inr (.inl (a + 1))] (hp S D) Q := w_getR dX8_tiredIn_61 (t := 7) (j := 0) (c := 2) (by decide +kernel) (by decide) rfl (ln_ok (by decide) (by decide)) ha
theorem s84_64 (ha : tg a = 0) : wp 84 64 [l0, l1, l2, l3, l4, l5, l6] [.inr (.inl a)] (hp S D) Q ↔ wp 84 67 [l0, l1, l2, l3, l4, l5, l6] [.inr (.inl (a + 1))] (hp S D) Q := w_getR dX8_tiredIn_64 (t := 0) (j := 0) (c := 2) (by decide +kernel) (by decide) rfl (ln_ok (by decide) (by decide)) ha
theorem s84_67  : wp 84 67 [l0, l1, l2, l3, l4, l5, l6] [v0] h Q ↔ wp 84 68 [l0, l1, l2, l3, l4, l5, l6] [.inl 1, v0] h Q := w_const1 dX8_tiredIn_67 k_1
theorem s84_68  : wp 84 68 [l0, l1, l2, l3, l4, l5, l6] [.inl x1, .inr (.inl a0)] h Q ↔ wp 51 0 [.inr (.inl a0), .inl x1] [] h (kont 84 71 [l0, l1, l2, l3, l4, l5, l6] [] Q) := w_callS (y2 := 51) (kd := 0) (vs := [.inr (.inl a0), .inl x1]) (st := []) dX8_tiredIn_68 (by decide +kernel) (by decide) rfl (by decide +kernel) (Nat.le_of_ble_eq_true rfl) (eSm_4 (by simp))
theorem s84_71  : wp 84 71 [l0, l1, l2, l3, l4, l5, l6] [.inl x] h Q ↔ wp 84 73 [l0, l1, l2, l3, .inl x, l5, l6] [] h Q := wp_step dX8_tiredIn_71 (fun _ => rfl)
theorem s84_73 (h0 : a ≠ 0) : wp 84 73 [l0, l1, .inr (.inl a), l3, l4, l5, l6] [] h Q ↔ wp 84 74 [l0, l1, .inr (.inl a), l3, l4, l5, l6] [.inr (.inl a)] h Q := wp_step dX8_tiredIn_73 (fun _ => if_neg h0)
theorem s84_74 (ha : tg a = 3) : wp 84 74 [l0, l1, l2, l3, l4, l5, l6] [.inr (.inl a)] (hp S D) Q ↔ wp 31 0 [.inr (.inl a)] [] (hp S D) (kont 84 77 [l0, l1, l2, l3, l4, l5, l6] [] Q) := w_callV (y2 := 31) (vs := []) (st := []) dX8_tiredIn_74 (by decide +kernel) rfl (by decide +kernel) (Nat.le_of_ble_eq_true rfl) (eSm_4 (by simp)) 3 rfl (by decide) ha
theorem s84_77  : wp 84 77 [l0, l1, l2, l3, l4, l5, l6] [.inl x] h Q ↔ wp 84 79 [l0, l1, l2, l3, l4, .inl x, l6] [] h Q := wp_step dX8_tiredIn_77 (fun _ => rfl)
theorem s84_79  : wp 84 79 [l0, l1, l2, l3, l4, l5, l6] [] h Q ↔ wp 84 80 [l0, l1, l2, l3, l4, l5, l6] [.inl 1] h Q := w_const1 dX8_tiredIn_79 k_1
theorem s84_80  : wp 84 80 [l0, l1, l2, l3, l4, l5, l6] [.inl x] h Q ↔ wp 84 82 [l0, l1, l2, l3, l4, l5, .inl x] [] h Q := wp_step dX8_tiredIn_80 (fun _ => rfl)
theorem s84_82  : wp 84 82 [l0, l1, l2, l3, l4, l5, .inl x] [] h Q ↔ wp 84 84 [l0, l1, l2, l3, l4, l5, .inl x] [.inl x] h Q := wp_step dX8_tiredIn_82 (fun _ => rfl)
theorem s84_84  : wp 84 84 [l0, l1, l2, l3, l4, .inl x, l6] [v0] h Q ↔ wp 84 86 [l0, l1, l2, l3, l4, .inl x, l6] [.inl x, v0] h Q := wp_step dX8_tiredIn_84 (fun _ => rfl)
theorem s84_86  : wp 84 86 [l0, l1, l2, l3, l4, l5, l6] [.inl z, .inl x] h Q ↔ if z < x then wp 84 111 [l0, l1, l2, l3, l4, l5, l6] [] h Q else wp 84 89 [l0, l1, l2, l3, l4, l5, l6] [] h Q := w_cgt dX8_tiredIn_86 (by decide)
theorem s84_89 (h0 : a ≠ 0) : wp 84 89 [.inr (.inl a), l1, l2, l3, l4, l5, l6] [] h Q ↔ wp 84 90 [.inr (.inl a), l1, l2, l3, l4, l5, l6] [.inr (.inl a)] h Q := wp_step dX8_tiredIn_89 (fun _ => if_neg h0)
theorem s84_90 (ha : tg a = 7) : wp 84 90 [l0, l1, l2, l3, l4, l5, l6] [.inr (.inl a)] (hp S D) Q ↔ wp 84 93 [l0, l1, l2, l3, l4, l5, l6] [.inr (.inl (a + 61))] (hp S D) Q := w_getR dX8_tiredIn_90 (t := 7) (j := 3) (c := 2) (by decide +kernel) (by decide) rfl (ln_ok (by decide) (by decide)) ha
theorem s84_93  : wp 84 93 [l0, l1, l2, .inl x, l4, l5, l6] [v0] h Q ↔ wp 84 94 [l0, l1, l2, .inl x, l4, l5, l6] [.inl x, v0] h Q := wp_step dX8_tiredIn_93 (fun _ => rfl)
theorem s84_94  : wp 84 94 [l0, l1, l2, l3, .inl x, l5, l6] [v0, v1] h Q ↔ wp 84 96 [l0, l1, l2, l3, .inl x, l5, l6] [.inl x, v0, v1] h Q := wp_step dX8_tiredIn_94 (fun _ => rfl)
theorem s84_96 (ha : tg a = 3) : wp 84 96 [l0, l1, l2, l3, l4, l5, l6] [.inl x1, .inl x0, .inr (.inl a)] (hp S D) Q ↔ wp 34 0 [.inr (.inl a), .inl x0, .inl x1, .inr (.inl 0), .inr (.inl 0)] [] (hp S D) (kont 84 99 [l0, l1, l2, l3, l4, l5, l6] [] Q) := w_callV (y2 := 34) (vs := [.inl x0, .inl x1]) (st := []) dX8_tiredIn_96 (by decide +kernel) rfl (by decide +kernel) (Nat.le_of_ble_eq_true rfl) (eSm_4 (by simp)) 3 rfl (by decide) ha
theorem s84_99  : wp 84 99 [l0, l1, l2, l3, l4, l5, l6] [.inl x] h Q ↔ if x = 0 then wp 84 105 [l0, l1, l2, l3, l4, l5, l6] [] h Q else wp 84 102 [l0, l1, l2, l3, l4, l5, l6] [] h Q := w_eq0 dX8_tiredIn_99 (by decide)
theorem s84_102  : wp 84 102 [l0, l1, l2, l3, l4, l5, .inl x] [] h Q ↔ wp 84 104 [l0, l1, l2, l3, l4, l5, .inl x] [.inl x] h Q := wp_step dX8_tiredIn_102 (fun _ => rfl)
theorem s84_104  : wp 84 104 [l0, l1, l2, l3, l4, l5, l6] [.inl x] h Q ↔ Q (some (.inl x)) h := w_reti dX8_tiredIn_104 (e_ri (by decide +kernel))
theorem s84_105  : wp 84 105 [l0, l1, l2, l3, l4, l5, .inl x] [] h Q ↔ wp 84 108 [l0, l1, l2, l3, l4, l5, .inl (w32 (x + 1))] [] h Q := wp_step dX8_tiredIn_105 (fun _ => rfl)
theorem s84_108  : wp 84 108 [l0, l1, l2, l3, l4, l5, l6] [] h Q ↔ wp 84 82 [l0, l1, l2, l3, l4, l5, l6] [] h Q := w_goto dX8_tiredIn_108 (by decide)
theorem s84_111  : wp 84 111 [l0, l1, l2, l3, l4, l5, l6] [] h Q ↔ wp 84 113 [l0, l1, l2, l3, l4, l5, l6] [.inl (-5)] h Q := w_const2 dX8_tiredIn_111 k_m5 k8_m5
theorem s84_113  : wp 84 113 [l0, l1, l2, l3, l4, l5, l6] [.inl x] h Q ↔ Q (some (.inl x)) h := w_reti dX8_tiredIn_113 (e_ri (by decide +kernel))
theorem s85_0 (h0 : a ≠ 0) : wp 85 0 [.inr (.inl a), l1] [] h Q ↔ wp 85 1 [.inr (.inl a), l1] [.inr (.inl a)] h Q := wp_step dX8_darkIn_0 (fun _ => if_neg h0)
theorem s85_1 (ha : tg a = 7) : wp 85 1 [l0, l1] [.inr (.inl a)] (hp S D) Q ↔ wp 85 4 [l0, l1] [.inr (.inl (a + 41))] (hp S D) Q := w_getR dX8_darkIn_1 (t := 7) (j := 2) (c := 2) (by decide +kernel) (by decide) rfl (ln_ok (by decide) (by decide)) ha
theorem s85_4 (h0 : a ≠ 0) : wp 85 4 [.inr (.inl a), l1] [v0] h Q ↔ wp 85 5 [.inr (.inl a), l1] [.inr (.inl a), v0] h Q := wp_step dX8_darkIn_4 (fun _ => if_neg h0)
theorem s85_5 (ha : tg a = 7) : wp 85 5 [l0, l1] [.inr (.inl a), v0] (hp S D) Q ↔ wp 85 8 [l0, l1] [.inr (.inl (a + 1)), v0] (hp S D) Q := w_getR dX8_darkIn_5 (t := 7) (j := 0) (c := 2) (by decide +kernel) (by decide) rfl (ln_ok (by decide) (by decide)) ha
theorem s85_8 (ha : tg a = 0) : wp 85 8 [l0, l1] [.inr (.inl a0), .inr (.inl a)] (hp S D) Q ↔ wp 1 0 [.inr (.inl a), .inr (.inl a0)] [] (hp S D) (kont 85 11 [l0, l1] [] Q) := w_callV (y2 := 1) (vs := [.inr (.inl a0)]) (st := []) dX8_darkIn_8 (by decide +kernel) rfl (by decide +kernel) (Nat.le_of_ble_eq_true rfl) (eSm_4 (by simp)) 0 rfl (by decide) ha
theorem s85_11  : wp 85 11 [l0, l1] [] h Q ↔ wp 85 12 [l0, l1] [.inl 0] h Q := w_const1 dX8_darkIn_11 k_0
theorem s85_12  : wp 85 12 [l0, l1] [.inl x] h Q ↔ wp 85 13 [l0, .inl x] [] h Q := wp_step dX8_darkIn_12 (fun _ => rfl)
theorem s85_13  : wp 85 13 [l0, .inl x] [] h Q ↔ wp 85 14 [l0, .inl x] [.inl x] h Q := wp_step dX8_darkIn_13 (fun _ => rfl)
theorem s85_14  : wp 85 14 [l0, l1] [v0] h Q ↔ wp 85 17 [l0, l1] [.inl 3000, v0] h Q := w_const3 dX8_darkIn_14 k_3000 k16_3000
theorem s85_17  : wp 85 17 [l0, l1] [.inl z, .inl x] h Q ↔ if z < x then wp 85 39 [l0, l1] [] h Q else wp 85 20 [l0, l1] [] h Q := w_cgt dX8_darkIn_17 (by decide)
theorem s85_20 (h0 : a ≠ 0) : wp 85 20 [.inr (.inl a), l1] [] h Q ↔ wp 85 21 [.inr (.inl a), l1] [.inr (.inl a)] h Q := wp_step dX8_darkIn_20 (fun _ => if_neg h0)
theorem s85_21 (ha : tg a = 7) : wp 85 21 [l0, l1] [.inr (.inl a)] (hp S D) Q ↔ wp 85 24 [l0, l1] [.inr (.inl (a + 41))] (hp S D) Q := w_getR dX8_darkIn_21 (t := 7) (j := 2) (c := 2) (by decide +kernel) (by decide) rfl (ln_ok (by decide) (by decide)) ha
theorem s85_24  : wp 85 24 [l0, l1] [v0] h Q ↔ wp 85 25 [l0, l1] [.inl 0, v0] h Q := w_const1 dX8_darkIn_24 k_0
theorem s85_25 (ha : tg a = 0) : wp 85 25 [l0, l1] [.inl x0, .inr (.inl a)] (hp S D) Q ↔ wp 4 0 [.inr (.inl a), .inl x0, .inr (.inl 0), .inr (.inl 0)] [] (hp S D) (kont 85 28 [l0, l1] [] Q) := w_callV (y2 := 4) (vs := [.inl x0]) (st := []) dX8_darkIn_25 (by decide +kernel) rfl (by decide +kernel) (Nat.le_of_ble_eq_true rfl) (eSm_4 (by simp)) 0 rfl (by decide) ha
theorem s85_28  : wp 85 28 [l0, l1] [.inl x] h Q ↔ if x = 0 then wp 85 33 [l0, l1] [] h Q else wp 85 31 [l0, l1] [] h Q := w_eq0 dX8_darkIn_28 (by decide)
theorem s85_31  : wp 85 31 [l0, .inl x] [] h Q ↔ wp 85 32 [l0, .inl x] [.inl x] h Q := wp_step dX8_darkIn_31 (fun _ => rfl)
theorem s85_32  : wp 85 32 [l0, l1] [.inl x] h Q ↔ Q (some (.inl x)) h := w_reti dX8_darkIn_32 (e_ri (by decide +kernel))
theorem s85_33  : wp 85 33 [l0, .inl x] [] h Q ↔ wp 85 36 [l0, .inl (w32 (x + 1))] [] h Q := wp_step dX8_darkIn_33 (fun _ => rfl)
theorem s85_36  : wp 85 36 [l0, l1] [] h Q ↔ wp 85 13 [l0, l1] [] h Q := w_goto dX8_darkIn_36 (by decide)
theorem s85_39  : wp 85 39 [l0, l1] [] h Q ↔ wp 85 41 [l0, l1] [.inl (-5)] h Q := w_const2 dX8_darkIn_39 k_m5 k8_m5
theorem s85_41  : wp 85 41 [l0, l1] [.inl x] h Q ↔ Q (some (.inl x)) h := w_reti dX8_darkIn_41 (e_ri (by decide +kernel))
theorem s86_0  : wp 86 0 [l0, .inl x] [] h Q ↔ wp 86 1 [l0, .inl x] [.inl x] h Q := wp_step dX8_ranked_0 (fun _ => rfl)
theorem s86_1  : wp 86 1 [l0, l1] [.inl x] h Q ↔ if x < 0 then wp 86 4 [l0, l1] [] h Q else wp 86 7 [l0, l1] [] h Q := w_ge0 dX8_ranked_1 (by decide)
theorem s86_4  : wp 86 4 [l0, l1] [] h Q ↔ wp 86 6 [l0, l1] [.inl (-2)] h Q := w_const2 dX8_ranked_4 k_m2 k8_m2
theorem s86_6  : wp 86 6 [l0, l1] [.inl x] h Q ↔ Q (some (.inl x)) h := w_reti dX8_ranked_6 (e_ri (by decide +kernel))
theorem s86_7 (h0 : a ≠ 0) : wp 86 7 [.inr (.inl a), l1] [] h Q ↔ wp 86 8 [.inr (.inl a), l1] [.inr (.inl a)] h Q := wp_step dX8_ranked_7 (fun _ => if_neg h0)
theorem s86_8 (ha : tg a = 7) : wp 86 8 [l0, l1] [.inr (.inl a)] (hp S D) Q ↔ wp 86 11 [l0, l1] [.inr (.inl (a + 1))] (hp S D) Q := w_getR dX8_ranked_8 (t := 7) (j := 0) (c := 2) (by decide +kernel) (by decide) rfl (ln_ok (by decide) (by decide)) ha
theorem s86_11 (ha : tg a = 0) : wp 86 11 [l0, l1] [.inr (.inl a)] (hp S D) Q ↔ wp 86 14 [l0, l1] [.inr (.inl (a + 3))] (hp S D) Q := w_getR dX8_ranked_11 (t := 0) (j := 2) (c := 2) (by decide +kernel) (by decide) rfl (ln_ok (by decide) (by decide)) ha
theorem s86_14  : wp 86 14 [l0, .inl x] [v0] h Q ↔ wp 86 15 [l0, .inl x] [.inl x, v0] h Q := wp_step dX8_ranked_14 (fun _ => rfl)
theorem s86_15 (ha : tg a = 6) : wp 86 15 [l0, l1] [.inl x0, .inr (.inl a)] (hp S D) Q ↔ wp 62 0 [.inr (.inl a), .inl x0, .inr (.inl 0)] [] (hp S D) (kont 86 18 [l0, l1] [] Q) := w_callV (y2 := 62) (vs := [.inl x0]) (st := []) dX8_ranked_15 (by decide +kernel) rfl (by decide +kernel) (Nat.le_of_ble_eq_true rfl) (eSm_4 (by simp)) 6 rfl (by decide) ha
theorem s86_18  : wp 86 18 [l0, l1] [.inl x] h Q ↔ Q (some (.inl x)) h := w_reti dX8_ranked_18 (e_ri (by decide +kernel))
theorem s87_0  : wp 87 0 [l0, .inl x, l2, l3] [] h Q ↔ wp 87 1 [l0, .inl x, l2, l3] [.inl x] h Q := wp_step dX8_planned_0 (fun _ => rfl)
theorem s87_1  : wp 87 1 [l0, l1, l2, l3] [.inl x] h Q ↔ if x < 0 then wp 87 13 [l0, l1, l2, l3] [] h Q else wp 87 4 [l0, l1, l2, l3] [] h Q := w_lt0 dX8_planned_1 (by decide)
theorem s87_4  : wp 87 4 [l0, l1, .inl x, l3] [] h Q ↔ wp 87 5 [l0, l1, .inl x, l3] [.inl x] h Q := wp_step dX8_planned_4 (fun _ => rfl)
theorem s87_5  : wp 87 5 [l0, l1, l2, l3] [v0] h Q ↔ wp 87 6 [l0, l1, l2, l3] [.inl 0, v0] h Q := w_const1 dX8_planned_5 k_0
theorem s87_6  : wp 87 6 [l0, l1, l2, l3] [v0, v1] h Q ↔ wp 87 7 [l0, l1, l2, l3] [.inl 2, v0, v1] h Q := w_const1 dX8_planned_6 k_2
theorem s87_7  : wp 87 7 [l0, l1, l2, l3] [.inl x2, .inl x1, .inl x0] h Q ↔ wp 91 0 [.inl x0, .inl x1, .inl x2] [] h (kont 87 10 [l0, l1, l2, l3] [] Q) := w_callS (y2 := 91) (kd := 0) (vs := [.inl x0, .inl x1, .inl x2]) (st := []) dX8_planned_7 (by decide +kernel) (by decide) rfl (by decide +kernel) (Nat.le_of_ble_eq_true rfl) (eSm_4 (by simp))
theorem s87_10  : wp 87 10 [l0, l1, l2, l3] [.inl x] h Q ↔ if x = 0 then wp 87 13 [l0, l1, l2, l3] [] h Q else wp 87 16 [l0, l1, l2, l3] [] h Q := w_ne0 dX8_planned_10 (by decide)
theorem s87_13  : wp 87 13 [l0, l1, l2, l3] [] h Q ↔ wp 87 15 [l0, l1, l2, l3] [.inl (-2)] h Q := w_const2 dX8_planned_13 k_m2 k8_m2
theorem s87_15  : wp 87 15 [l0, l1, l2, l3] [.inl x] h Q ↔ Q (some (.inl x)) h := w_reti dX8_planned_15 (e_ri (by decide +kernel))
theorem s87_16 (h0 : a ≠ 0) : wp 87 16 [.inr (.inl a), l1, l2, l3] [] h Q ↔ wp 87 17 [.inr (.inl a), l1, l2, l3] [.inr (.inl a)] h Q := wp_step dX8_planned_16 (fun _ => if_neg h0)
theorem s87_17 (ha : tg a = 7) : wp 87 17 [l0, l1, l2, l3] [.inr (.inl a)] (hp S D) Q ↔ wp 87 20 [l0, l1, l2, l3] [.inr (.inl (a + 1))] (hp S D) Q := w_getR dX8_planned_17 (t := 7) (j := 0) (c := 2) (by decide +kernel) (by decide) rfl (ln_ok (by decide) (by decide)) ha
theorem s87_20 (ha : tg a = 0) : wp 87 20 [l0, l1, l2, l3] [.inr (.inl a)] (hp S D) Q ↔ wp 87 23 [l0, l1, l2, l3] [.inr (.inl (a + 12))] (hp S D) Q := w_getR dX8_planned_20 (t := 0) (j := 3) (c := 2) (by decide +kernel) (by decide) rfl (ln_ok (by decide) (by decide)) ha
theorem s87_23  : wp 87 23 [l0, .inl x, l2, l3] [v0] h Q ↔ wp 87 24 [l0, .inl x, l2, l3] [.inl x, v0] h Q := wp_step dX8_planned_23 (fun _ => rfl)
theorem s87_24 (ha : tg a = 4) : wp 87 24 [l0, l1, l2, l3] [.inl x0, .inr (.inl a)] (hp S D) Q ↔ wp 41 0 [.inr (.inl a), .inl x0, .inr (.inl 0)] [] (hp S D) (kont 87 27 [l0, l1, l2, l3] [] Q) := w_callV (y2 := 41) (vs := [.inl x0]) (st := []) dX8_planned_24 (by decide +kernel) rfl (by decide +kernel) (Nat.le_of_ble_eq_true rfl) (eSm_4 (by simp)) 4 rfl (by decide) ha
theorem s87_27  : wp 87 27 [l0, l1, l2, l3] [.inl x] h Q ↔ wp 87 28 [l0, l1, l2, .inl x] [] h Q := wp_step dX8_planned_27 (fun _ => rfl)
theorem s87_28  : wp 87 28 [l0, l1, l2, .inl x] [] h Q ↔ wp 87 29 [l0, l1, l2, .inl x] [.inl x] h Q := wp_step dX8_planned_28 (fun _ => rfl)
theorem s87_29  : wp 87 29 [l0, l1, l2, l3] [v0] h Q ↔ wp 87 31 [l0, l1, l2, l3] [.inl (-5), v0] h Q := w_const2 dX8_planned_29 k_m5 k8_m5
theorem s87_31  : wp 87 31 [l0, l1, l2, l3] [.inl z, .inl x] h Q ↔ if x = z then wp 87 34 [l0, l1, l2, l3] [] h Q else wp 87 37 [l0, l1, l2, l3] [] h Q := w_cne dX8_planned_31 (by decide)
theorem s87_34  : wp 87 34 [l0, l1, l2, l3] [] h Q ↔ wp 87 36 [l0, l1, l2, l3] [.inl (-5)] h Q := w_const2 dX8_planned_34 k_m5 k8_m5
theorem s87_36  : wp 87 36 [l0, l1, l2, l3] [.inl x] h Q ↔ Q (some (.inl x)) h := w_reti dX8_planned_36 (e_ri (by decide +kernel))
theorem s87_37  : wp 87 37 [l0, l1, .inl x, l3] [] h Q ↔ wp 87 38 [l0, l1, .inl x, l3] [.inl x] h Q := wp_step dX8_planned_37 (fun _ => rfl)
theorem s87_38  : wp 87 38 [l0, l1, l2, l3] [.inl x] h Q ↔ if x = 0 then wp 87 64 [l0, l1, l2, l3] [] h Q else if x = 1 then wp 87 79 [l0, l1, l2, l3] [] h Q else wp 87 94 [l0, l1, l2, l3] [] h Q := by
  by_cases h2 : x = 0
  · subst h2
    simp only [if_true]
    exact w_lookup (tgt := 64) dX8_planned_38 (by decide) (by simp [Op.lookupswitch.offset])
  · rw [if_neg h2]
    by_cases h1 : x = 1
    · subst h1
      simp only [if_true]
      exact w_lookup (tgt := 79) dX8_planned_38 (by decide) (by simp [Op.lookupswitch.offset])
    · rw [if_neg h1]
      exact w_lookup (tgt := 94) dX8_planned_38 (by decide) (by
        show ((38 : Nat) : Int) + Op.lookupswitch.offset [(0, 26), (1, 41)] 56 x = _
        rw [Op.lookupswitch.offset_cons, if_neg (fun q => h2 q.symm), Op.lookupswitch.offset_cons, if_neg (fun q => h1 q.symm)]
        rfl)

theorem s87_64 (h0 : a ≠ 0) : wp 87 64 [.inr (.inl a), l1, l2, l3] [] h Q ↔ wp 87 65 [.inr (.inl a), l1, l2, l3] [.inr (.inl a)] h Q := wp_step dX8_planned_64 (fun _ => if_neg h0)
theorem s87_65 (ha : tg a = 7) : wp 87 65 [l0, l1, l2, l3] [.inr (.inl a)] (hp S D) Q ↔ wp 87 68 [l0, l1, l2, l3] [.inr (.inl (a + 1))] (hp S D) Q := w_getR dX8_planned_65 (t := 7) (j := 0) (c := 2) (by decide +kernel) (by decide) rfl (ln_ok (by decide) (by decide)) ha
theorem s87_68 (ha : tg a = 0) : wp 87 68 [l0, l1, l2, l3] [.inr (.inl a)] (hp S D) Q ↔ wp 87 71 [l0, l1, l2, l3] [.inr (.inl (a + 12))] (hp S D) Q := w_getR dX8_planned_68 (t := 0) (j := 3) (c := 2) (by decide +kernel) (by decide) rfl (ln_ok (by decide) (by decide)) ha
theorem s87_71 (ha : tg a = 4) : wp 87 71 [l0, l1, l2, l3] [.inr (.inl a)] (hp S D) Q ↔ wp 87 74 [l0, l1, l2, l3] [.inr (.inl (a + 1))] (hp S D) Q := w_getR dX8_planned_71 (t := 4) (j := 0) (c := 2) (by decide +kernel) (by decide) rfl (ln_ok (by decide) (by decide)) ha
theorem s87_74  : wp 87 74 [l0, l1, l2, .inl x] [v0] h Q ↔ wp 87 75 [l0, l1, l2, .inl x] [.inl x, v0] h Q := wp_step dX8_planned_74 (fun _ => rfl)
theorem s87_75  : wp 87 75 [l0, l1, l2, l3] [.inl x1, .inr (.inl a0)] h Q ↔ wp 51 0 [.inr (.inl a0), .inl x1] [] h (kont 87 78 [l0, l1, l2, l3] [] Q) := w_callS (y2 := 51) (kd := 0) (vs := [.inr (.inl a0), .inl x1]) (st := []) dX8_planned_75 (by decide +kernel) (by decide) rfl (by decide +kernel) (Nat.le_of_ble_eq_true rfl) (eSm_4 (by simp))
theorem s87_78  : wp 87 78 [l0, l1, l2, l3] [.inl x] h Q ↔ Q (some (.inl x)) h := w_reti dX8_planned_78 (e_ri (by decide +kernel))
theorem s87_79 (h0 : a ≠ 0) : wp 87 79 [.inr (.inl a), l1, l2, l3] [] h Q ↔ wp 87 80 [.inr (.inl a), l1, l2, l3] [.inr (.inl a)] h Q := wp_step dX8_planned_79 (fun _ => if_neg h0)
theorem s87_80 (ha : tg a = 7) : wp 87 80 [l0, l1, l2, l3] [.inr (.inl a)] (hp S D) Q ↔ wp 87 83 [l0, l1, l2, l3] [.inr (.inl (a + 1))] (hp S D) Q := w_getR dX8_planned_80 (t := 7) (j := 0) (c := 2) (by decide +kernel) (by decide) rfl (ln_ok (by decide) (by decide)) ha
theorem s87_83 (ha : tg a = 0) : wp 87 83 [l0, l1, l2, l3] [.inr (.inl a)] (hp S D) Q ↔ wp 87 86 [l0, l1, l2, l3] [.inr (.inl (a + 12))] (hp S D) Q := w_getR dX8_planned_83 (t := 0) (j := 3) (c := 2) (by decide +kernel) (by decide) rfl (ln_ok (by decide) (by decide)) ha
theorem s87_86 (ha : tg a = 4) : wp 87 86 [l0, l1, l2, l3] [.inr (.inl a)] (hp S D) Q ↔ wp 87 89 [l0, l1, l2, l3] [.inr (.inl (a + 2))] (hp S D) Q := w_getR dX8_planned_86 (t := 4) (j := 1) (c := 2) (by decide +kernel) (by decide) rfl (ln_ok (by decide) (by decide)) ha
theorem s87_89  : wp 87 89 [l0, l1, l2, .inl x] [v0] h Q ↔ wp 87 90 [l0, l1, l2, .inl x] [.inl x, v0] h Q := wp_step dX8_planned_89 (fun _ => rfl)
theorem s87_90  : wp 87 90 [l0, l1, l2, l3] [.inl x1, .inr (.inl a0)] h Q ↔ wp 51 0 [.inr (.inl a0), .inl x1] [] h (kont 87 93 [l0, l1, l2, l3] [] Q) := w_callS (y2 := 51) (kd := 0) (vs := [.inr (.inl a0), .inl x1]) (st := []) dX8_planned_90 (by decide +kernel) (by decide) rfl (by decide +kernel) (Nat.le_of_ble_eq_true rfl) (eSm_4 (by simp))
theorem s87_93  : wp 87 93 [l0, l1, l2, l3] [.inl x] h Q ↔ Q (some (.inl x)) h := w_reti dX8_planned_93 (e_ri (by decide +kernel))
theorem s87_94 (h0 : a ≠ 0) : wp 87 94 [.inr (.inl a), l1, l2, l3] [] h Q ↔ wp 87 95 [.inr (.inl a), l1, l2, l3] [.inr (.inl a)] h Q := wp_step dX8_planned_94 (fun _ => if_neg h0)
theorem s87_95 (ha : tg a = 7) : wp 87 95 [l0, l1, l2, l3] [.inr (.inl a)] (hp S D) Q ↔ wp 87 98 [l0, l1, l2, l3] [.inr (.inl (a + 1))] (hp S D) Q := w_getR dX8_planned_95 (t := 7) (j := 0) (c := 2) (by decide +kernel) (by decide) rfl (ln_ok (by decide) (by decide)) ha
theorem s87_98 (ha : tg a = 0) : wp 87 98 [l0, l1, l2, l3] [.inr (.inl a)] (hp S D) Q ↔ wp 87 101 [l0, l1, l2, l3] [.inr (.inl (a + 12))] (hp S D) Q := w_getR dX8_planned_98 (t := 0) (j := 3) (c := 2) (by decide +kernel) (by decide) rfl (ln_ok (by decide) (by decide)) ha
theorem s87_101 (ha : tg a = 4) : wp 87 101 [l0, l1, l2, l3] [.inr (.inl a)] (hp S D) Q ↔ wp 87 104 [l0, l1, l2, l3] [.inr (.inl (a + 3))] (hp S D) Q := w_getR dX8_planned_101 (t := 4) (j := 2) (c := 2) (by decide +kernel) (by decide) rfl (ln_ok (by decide) (by decide)) ha
theorem s87_104  : wp 87 104 [l0, l1, l2, .inl x] [v0] h Q ↔ wp 87 105 [l0, l1, l2, .inl x] [.inl x, v0] h Q := wp_step dX8_planned_104 (fun _ => rfl)
theorem s87_105  : wp 87 105 [l0, l1, l2, l3] [.inl x1, .inr (.inl a0)] h Q ↔ wp 51 0 [.inr (.inl a0), .inl x1] [] h (kont 87 108 [l0, l1, l2, l3] [] Q) := w_callS (y2 := 51) (kd := 0) (vs := [.inr (.inl a0), .inl x1]) (st := []) dX8_planned_105 (by decide +kernel) (by decide) rfl (by decide +kernel) (Nat.le_of_ble_eq_true rfl) (eSm_4 (by simp))
theorem s87_108  : wp 87 108 [l0, l1, l2, l3] [.inl x] h Q ↔ Q (some (.inl x)) h := w_reti dX8_planned_108 (e_ri (by decide +kernel))
theorem s88_0  : wp 88 0 [l0, .inl x, l2, l3] [] h Q ↔ wp 88 1 [l0, .inl x, l2, l3] [.inl x] h Q := wp_step dX8_event_0 (fun _ => rfl)
theorem s88_1  : wp 88 1 [l0, l1, l2, l3] [.inl x] h Q ↔ if x < 0 then wp 88 13 [l0, l1, l2, l3] [] h Q else wp 88 4 [l0, l1, l2, l3] [] h Q := w_lt0 dX8_event_1 (by decide)
theorem s88_4  : wp 88 4 [l0, l1, .inl x, l3] [] h Q ↔ wp 88 5 [l0, l1, .inl x, l3] [.inl x] h Q := wp_step dX8_event_4 (fun _ => rfl)
theorem s88_5  : wp 88 5 [l0, l1, l2, l3] [v0] h Q ↔ wp 88 6 [l0, l1, l2, l3] [.inl 0, v0] h Q := w_const1 dX8_event_5 k_0
theorem s88_6  : wp 88 6 [l0, l1, l2, l3] [v0, v1] h Q ↔ wp 88 7 [l0, l1, l2, l3] [.inl 2, v0, v1] h Q := w_const1 dX8_event_6 k_2
theorem s88_7  : wp 88 7 [l0, l1, l2, l3] [.inl x2, .inl x1, .inl x0] h Q ↔ wp 91 0 [.inl x0, .inl x1, .inl x2] [] h (kont 88 10 [l0, l1, l2, l3] [] Q) := w_callS (y2 := 91) (kd := 0) (vs := [.inl x0, .inl x1, .inl x2]) (st := []) dX8_event_7 (by decide +kernel) (by decide) rfl (by decide +kernel) (Nat.le_of_ble_eq_true rfl) (eSm_4 (by simp))
theorem s88_10  : wp 88 10 [l0, l1, l2, l3] [.inl x] h Q ↔ if x = 0 then wp 88 13 [l0, l1, l2, l3] [] h Q else wp 88 16 [l0, l1, l2, l3] [] h Q := w_ne0 dX8_event_10 (by decide)
theorem s88_13  : wp 88 13 [l0, l1, l2, l3] [] h Q ↔ wp 88 15 [l0, l1, l2, l3] [.inl (-2)] h Q := w_const2 dX8_event_13 k_m2 k8_m2
theorem s88_15  : wp 88 15 [l0, l1, l2, l3] [.inl x] h Q ↔ Q (some (.inl x)) h := w_reti dX8_event_15 (e_ri (by decide +kernel))
theorem s88_16 (h0 : a ≠ 0) : wp 88 16 [.inr (.inl a), l1, l2, l3] [] h Q ↔ wp 88 17 [.inr (.inl a), l1, l2, l3] [.inr (.inl a)] h Q := wp_step dX8_event_16 (fun _ => if_neg h0)
theorem s88_17 (ha : tg a = 7) : wp 88 17 [l0, l1, l2, l3] [.inr (.inl a)] (hp S D) Q ↔ wp 88 20 [l0, l1, l2, l3] [.inr (.inl (a + 1))] (hp S D) Q := w_getR dX8_event_17 (t := 7) (j := 0) (c := 2) (by decide +kernel) (by decide) rfl (ln_ok (by decide) (by decide)) ha
theorem s88_20 (ha : tg a = 0) : wp 88 20 [l0, l1, l2, l3] [.inr (.inl a)] (hp S D) Q ↔ wp 88 23 [l0, l1, l2, l3] [.inr (.inl (a + 16))] (hp S D) Q := w_getR dX8_event_20 (t := 0) (j := 4) (c := 2) (by decide +kernel) (by decide) rfl (ln_ok (by decide) (by decide)) ha
theorem s88_23  : wp 88 23 [l0, .inl x, l2, l3] [v0] h Q ↔ wp 88 24 [l0, .inl x, l2, l3] [.inl x, v0] h Q := wp_step dX8_event_23 (fun _ => rfl)
theorem s88_24 (ha : tg a = 1) : wp 88 24 [l0, l1, l2, l3] [.inl x0, .inr (.inl a)] (hp S D) Q ↔ wp 18 0 [.inr (.inl a), .inl x0] [] (hp S D) (kont 88 27 [l0, l1, l2, l3] [] Q) := w_callV (y2 := 18) (vs := [.inl x0]) (st := []) dX8_event_24 (by decide +kernel) rfl (by decide +kernel) (Nat.le_of_ble_eq_true rfl) (eSm_4 (by simp)) 1 rfl (by decide) ha
theorem s88_27  : wp 88 27 [l0, l1, l2, l3] [.inl x] h Q ↔ wp 88 28 [l0, l1, l2, .inl x] [] h Q := wp_step dX8_event_27 (fun _ => rfl)
theorem s88_28  : wp 88 28 [l0, l1, l2, .inl x] [] h Q ↔ wp 88 29 [l0, l1, l2, .inl x] [.inl x] h Q := wp_step dX8_event_28 (fun _ => rfl)
theorem s88_29  : wp 88 29 [l0, l1, l2, l3] [v0] h Q ↔ wp 88 31 [l0, l1, l2, l3] [.inl (-5), v0] h Q := w_const2 dX8_event_29 k_m5 k8_m5
theorem s88_31  : wp 88 31 [l0, l1, l2, l3] [.inl z, .inl x] h Q ↔ if x = z then wp 88 34 [l0, l1, l2, l3] [] h Q else wp 88 37 [l0, l1, l2, l3] [] h Q := w_cne dX8_event_31 (by decide)
theorem s88_34  : wp 88 34 [l0, l1, l2, l3] [] h Q ↔ wp 88 36 [l0, l1, l2, l3] [.inl (-5)] h Q := w_const2 dX8_event_34 k_m5 k8_m5
theorem s88_36  : wp 88 36 [l0, l1, l2, l3] [.inl x] h Q ↔ Q (some (.inl x)) h := w_reti dX8_event_36 (e_ri (by decide +kernel))
theorem s88_37  : wp 88 37 [l0, l1, .inl x, l3] [] h Q ↔ wp 88 38 [l0, l1, .inl x, l3] [.inl x] h Q := wp_step dX8_event_37 (fun _ => rfl)
theorem s88_38  : wp 88 38 [l0, l1, l2, l3] [.inl x] h Q ↔ if x = 0 then wp 88 64 [l0, l1, l2, l3] [] h Q else if x = 1 then wp 88 79 [l0, l1, l2, l3] [] h Q else wp 88 94 [l0, l1, l2, l3] [] h Q := by
  by_cases h2 : x = 0
  · subst h2
    simp only [if_true]
    exact w_lookup (tgt := 64) dX8_event_38 (by decide) (by simp [Op.lookupswitch.offset])
  · rw [if_neg h2]
    by_cases h1 : x = 1
    · subst h1
      simp only [if_true]
      exact w_lookup (tgt := 79) dX8_event_38 (by decide) (by simp [Op.lookupswitch.offset])
    · rw [if_neg h1]
      exact w_lookup (tgt := 94) dX8_event_38 (by decide) (by
        show ((38 : Nat) : Int) + Op.lookupswitch.offset [(0, 26), (1, 41)] 56 x = _
        rw [Op.lookupswitch.offset_cons, if_neg (fun q => h2 q.symm), Op.lookupswitch.offset_cons, if_neg (fun q => h1 q.symm)]
        rfl)

theorem s88_64 (h0 : a ≠ 0) : wp 88 64 [.inr (.inl a), l1, l2, l3] [] h Q ↔ wp 88 65 [.inr (.inl a), l1, l2, l3] [.inr (.inl a)] h Q := wp_step dX8_event_64 (fun _ => if_neg h0)
theorem s88_65 (ha : tg a = 7) : wp 88 65 [l0, l1, l2, l3] [.inr (.inl a)] (hp S D) Q ↔ wp 88 68 [l0, l1, l2, l3] [.inr (.inl (a + 1))] (hp S D) Q := w_getR dX8_event_65 (t := 7) (j := 0) (c := 2) (by decide +kernel) (by decide) rfl (ln_ok (by decide) (by decide)) ha
theorem s88_68 (ha : tg a = 0) : wp 88 68 [l0, l1, l2, l3] [.inr (.inl a)] (hp S D) Q ↔ wp 88 71 [l0, l1, l2, l3] [.inr (.inl (a + 16))] (hp S D) Q := w_getR dX8_event_68 (t := 0) (j := 4) (c := 2) (by decide +kernel) (by decide) rfl (ln_ok (by decide) (by decide)) ha
theorem s88_71 (ha : tg a = 1) : wp 88 71 [l0, l1, l2, l3] [.inr (.inl a)] (hp S D) Q ↔ wp 88 74 [l0, l1, l2, l3] [.inr (.inl (a + 1))] (hp S D) Q := w_getR dX8_event_71 (t := 1) (j := 0) (c := 2) (by decide +kernel) (by decide) rfl (ln_ok (by decide) (by decide)) ha
theorem s88_74  : wp 88 74 [l0, l1, l2, .inl x] [v0] h Q ↔ wp 88 75 [l0, l1, l2, .inl x] [.inl x, v0] h Q := wp_step dX8_event_74 (fun _ => rfl)
theorem s88_75  : wp 88 75 [l0, l1, l2, l3] [.inl x1, .inr (.inl a0)] h Q ↔ wp 51 0 [.inr (.inl a0), .inl x1] [] h (kont 88 78 [l0, l1, l2, l3] [] Q) := w_callS (y2 := 51) (kd := 0) (vs := [.inr (.inl a0), .inl x1]) (st := []) dX8_event_75 (by decide +kernel) (by decide) rfl (by decide +kernel) (Nat.le_of_ble_eq_true rfl) (eSm_4 (by simp))
theorem s88_78  : wp 88 78 [l0, l1, l2, l3] [.inl x] h Q ↔ Q (some (.inl x)) h := w_reti dX8_event_78 (e_ri (by decide +kernel))
theorem s88_79 (h0 : a ≠ 0) : wp 88 79 [.inr (.inl a), l1, l2, l3] [] h Q ↔ wp 88 80 [.inr (.inl a), l1, l2, l3] [.inr (.inl a)] h Q := wp_step dX8_event_79 (fun _ => if_neg h0)
theorem s88_80 (ha : tg a = 7) : wp 88 80 [l0, l1, l2, l3] [.inr (.inl a)] (hp S D) Q ↔ wp 88 83 [l0, l1, l2, l3] [.inr (.inl (a + 1))] (hp S D) Q := w_getR dX8_event_80 (t := 7) (j := 0) (c := 2) (by decide +kernel) (by decide) rfl (ln_ok (by decide) (by decide)) ha
theorem s88_83 (ha : tg a = 0) : wp 88 83 [l0, l1, l2, l3] [.inr (.inl a)] (hp S D) Q ↔ wp 88 86 [l0, l1, l2, l3] [.inr (.inl (a + 16))] (hp S D) Q := w_getR dX8_event_83 (t := 0) (j := 4) (c := 2) (by decide +kernel) (by decide) rfl (ln_ok (by decide) (by decide)) ha
theorem s88_86 (ha : tg a = 1) : wp 88 86 [l0, l1, l2, l3] [.inr (.inl a)] (hp S D) Q ↔ wp 88 89 [l0, l1, l2, l3] [.inr (.inl (a + 2))] (hp S D) Q := w_getR dX8_event_86 (t := 1) (j := 1) (c := 2) (by decide +kernel) (by decide) rfl (ln_ok (by decide) (by decide)) ha
theorem s88_89  : wp 88 89 [l0, l1, l2, .inl x] [v0] h Q ↔ wp 88 90 [l0, l1, l2, .inl x] [.inl x, v0] h Q := wp_step dX8_event_89 (fun _ => rfl)
theorem s88_90  : wp 88 90 [l0, l1, l2, l3] [.inl x1, .inr (.inl a0)] h Q ↔ wp 51 0 [.inr (.inl a0), .inl x1] [] h (kont 88 93 [l0, l1, l2, l3] [] Q) := w_callS (y2 := 51) (kd := 0) (vs := [.inr (.inl a0), .inl x1]) (st := []) dX8_event_90 (by decide +kernel) (by decide) rfl (by decide +kernel) (Nat.le_of_ble_eq_true rfl) (eSm_4 (by simp))
theorem s88_93  : wp 88 93 [l0, l1, l2, l3] [.inl x] h Q ↔ Q (some (.inl x)) h := w_reti dX8_event_93 (e_ri (by decide +kernel))
theorem s88_94 (h0 : a ≠ 0) : wp 88 94 [.inr (.inl a), l1, l2, l3] [] h Q ↔ wp 88 95 [.inr (.inl a), l1, l2, l3] [.inr (.inl a)] h Q := wp_step dX8_event_94 (fun _ => if_neg h0)
theorem s88_95 (ha : tg a = 7) : wp 88 95 [l0, l1, l2, l3] [.inr (.inl a)] (hp S D) Q ↔ wp 88 98 [l0, l1, l2, l3] [.inr (.inl (a + 1))] (hp S D) Q := w_getR dX8_event_95 (t := 7) (j := 0) (c := 2) (by decide +kernel) (by decide) rfl (ln_ok (by decide) (by decide)) ha
theorem s88_98 (ha : tg a = 0) : wp 88 98 [l0, l1, l2, l3] [.inr (.inl a)] (hp S D) Q ↔ wp 88 101 [l0, l1, l2, l3] [.inr (.inl (a + 16))] (hp S D) Q := w_getR dX8_event_98 (t := 0) (j := 4) (c := 2) (by decide +kernel) (by decide) rfl (ln_ok (by decide) (by decide)) ha
theorem s88_101 (ha : tg a = 1) : wp 88 101 [l0, l1, l2, l3] [.inr (.inl a)] (hp S D) Q ↔ wp 88 104 [l0, l1, l2, l3] [.inr (.inl (a + 3))] (hp S D) Q := w_getR dX8_event_101 (t := 1) (j := 2) (c := 2) (by decide +kernel) (by decide) rfl (ln_ok (by decide) (by decide)) ha
theorem s88_104  : wp 88 104 [l0, l1, l2, .inl x] [v0] h Q ↔ wp 88 105 [l0, l1, l2, .inl x] [.inl x, v0] h Q := wp_step dX8_event_104 (fun _ => rfl)
theorem s88_105  : wp 88 105 [l0, l1, l2, l3] [.inl x1, .inr (.inl a0)] h Q ↔ wp 51 0 [.inr (.inl a0), .inl x1] [] h (kont 88 108 [l0, l1, l2, l3] [] Q) := w_callS (y2 := 51) (kd := 0) (vs := [.inr (.inl a0), .inl x1]) (st := []) dX8_event_105 (by decide +kernel) (by decide) rfl (by decide +kernel) (Nat.le_of_ble_eq_true rfl) (eSm_4 (by simp))
theorem s88_108  : wp 88 108 [l0, l1, l2, l3] [.inl x] h Q ↔ Q (some (.inl x)) h := w_reti dX8_event_108 (e_ri (by decide +kernel))
theorem s89_0  : wp 89 0 [l0, .inl x] [] h Q ↔ wp 89 1 [l0, .inl x] [.inl x] h Q := wp_step dX8_count_0 (fun _ => rfl)
theorem s89_1  : wp 89 1 [l0, l1] [.inl x] h Q ↔ if x = 0 then wp 89 72 [l0, l1] [] h Q else if x = 1 then wp 89 80 [l0, l1] [] h Q else if x = 2 then wp 89 91 [l0, l1] [] h Q else if x = 3 then wp 89 102 [l0, l1] [] h Q else if x = 4 then wp 89 113 [l0, l1] [] h Q else if x = 5 then wp 89 113 [l0, l1] [] h Q else if x = 6 then wp 89 113 [l0, l1] [] h Q else if x = 7 then wp 89 127 [l0, l1] [] h Q else if x = 8 then wp 89 135 [l0, l1] [] h Q else if x = 9 then wp 89 143 [l0, l1] [] h Q else if x = 10 then wp 89 151 [l0, l1] [] h Q else if x = 11 then wp 89 159 [l0, l1] [] h Q else if x = 12 then wp 89 170 [l0, l1] [] h Q else if x = 13 then wp 89 178 [l0, l1] [] h Q else wp 89 186 [l0, l1] [] h Q := by
  have T := w_table (y := 89) (ls := [l0, l1]) (st := []) (h := h) (Q := Q) (x := x) (fun i => ([72, 80, 91, 102, 113, 113, 113, 127, 135, 143, 151, 159, 170, 178] : List Nat).getD i 0) dX8_count_1 186 (by decide) (by
    intro i hi
    rcases (show i = 0 ∨ i = 1 ∨ i = 2 ∨ i = 3 ∨ i = 4 ∨ i = 5 ∨ i = 6 ∨ i = 7 ∨ i = 8 ∨ i = 9 ∨ i = 10 ∨ i = 11 ∨ i = 12 ∨ i = 13 by omega) with rfl | rfl | rfl | rfl | rfl | rfl | rfl | rfl | rfl | rfl | rfl | rfl | rfl | rfl <;> exact ⟨_, rfl, by decide⟩)
  rw [T]
  by_cases hc : x < 0 ∨ 13 < x
  · rw [if_pos hc]
    rw [if_neg (show ¬ x = 0 by omega), if_neg (show ¬ x = 1 by omega), if_neg (show ¬ x = 2 by omega), if_neg (show ¬ x = 3 by omega), if_neg (show ¬ x = 4 by omega), if_neg (show ¬ x = 5 by omega), if_neg (show ¬ x = 6 by omega), if_neg (show ¬ x = 7 by omega), if_neg (show ¬ x = 8 by omega), if_neg (show ¬ x = 9 by omega), if_neg (show ¬ x = 10 by omega), if_neg (show ¬ x = 11 by omega), if_neg (show ¬ x = 12 by omega), if_neg (show ¬ x = 13 by omega)]
  · rw [if_neg hc]
    rcases (show x = 0 ∨ x = 1 ∨ x = 2 ∨ x = 3 ∨ x = 4 ∨ x = 5 ∨ x = 6 ∨ x = 7 ∨ x = 8 ∨ x = 9 ∨ x = 10 ∨ x = 11 ∨ x = 12 ∨ x = 13 by omega) with rfl | rfl | rfl | rfl | rfl | rfl | rfl | rfl | rfl | rfl | rfl | rfl | rfl | rfl <;> simp
theorem s89_72 (h0 : a ≠ 0) : wp 89 72 [.inr (.inl a), l1] [] h Q ↔ wp 89 73 [.inr (.inl a), l1] [.inr (.inl a)] h Q := wp_step dX8_count_72 (fun _ => if_neg h0)
theorem s89_73 (ha : tg a = 7) : wp 89 73 [l0, l1] [.inr (.inl a)] (hp S D) Q ↔ wp 89 76 [l0, l1] [.inr (.inl (a + 1))] (hp S D) Q := w_getR dX8_count_73 (t := 7) (j := 0) (c := 2) (by decide +kernel) (by decide) rfl (ln_ok (by decide) (by decide)) ha
theorem s89_76 (ha : tg a = 0) : wp 89 76 [l0, l1] [.inr (.inl a)] (hp S D) Q ↔ wp 89 79 [l0, l1] [.inl (D a 5)] (hp S D) Q := w_getI dX8_count_76 (t := 0) (j := 5) (c := 0) (by decide +kernel) (by decide) rfl (ln_ok (by decide) (by decide)) ha
theorem s89_79  : wp 89 79 [l0, l1] [.inl x] h Q ↔ Q (some (.inl x)) h := w_reti dX8_count_79 (e_ri (by decide +kernel))
theorem s89_80 (h0 : a ≠ 0) : wp 89 80 [.inr (.inl a), l1] [] h Q ↔ wp 89 81 [.inr (.inl a), l1] [.inr (.inl a)] h Q := wp_step dX8_count_80 (fun _ => if_neg h0)
theorem s89_81 (ha : tg a = 7) : wp 89 81 [l0, l1] [.inr (.inl a)] (hp S D) Q ↔ wp 89 84 [l0, l1] [.inr (.inl (a + 1))] (hp S D) Q := w_getR dX8_count_81 (t := 7) (j := 0) (c := 2) (by decide +kernel) (by decide) rfl (ln_ok (by decide) (by decide)) ha
theorem s89_84 (ha : tg a = 0) : wp 89 84 [l0, l1] [.inr (.inl a)] (hp S D) Q ↔ wp 89 87 [l0, l1] [.inr (.inl (a + 3))] (hp S D) Q := w_getR dX8_count_84 (t := 0) (j := 2) (c := 2) (by decide +kernel) (by decide) rfl (ln_ok (by decide) (by decide)) ha
theorem s89_87 (ha : tg a = 6) : wp 89 87 [l0, l1] [.inr (.inl a)] (hp S D) Q ↔ wp 64 0 [.inr (.inl a), .inr (.inl 0), .inr (.inl 0)] [] (hp S D) (kont 89 90 [l0, l1] [] Q) := w_callV (y2 := 64) (vs := []) (st := []) dX8_count_87 (by decide +kernel) rfl (by decide +kernel) (Nat.le_of_ble_eq_true rfl) (eSm_4 (by simp)) 6 rfl (by decide) ha
theorem s89_90  : wp 89 90 [l0, l1] [.inl x] h Q ↔ Q (some (.inl x)) h := w_reti dX8_count_90 (e_ri (by decide +kernel))
theorem s89_91 (h0 : a ≠ 0) : wp 89 91 [.inr (.inl a), l1] [] h Q ↔ wp 89 92 [.inr (.inl a), l1] [.inr (.inl a)] h Q := wp_step dX8_count_91 (fun _ => if_neg h0)
theorem s89_92 (ha : tg a = 7) : wp 89 92 [l0, l1] [.inr (.inl a)] (hp S D) Q ↔ wp 89 95 [l0, l1] [.inr (.inl (a + 1))] (hp S D) Q := w_getR dX8_count_92 (t := 7) (j := 0) (c := 2) (by decide +kernel) (by decide) rfl (ln_ok (by decide) (by decide)) ha
theorem s89_95 (ha : tg a = 0) : wp 89 95 [l0, l1] [.inr (.inl a)] (hp S D) Q ↔ wp 89 98 [l0, l1] [.inr (.inl (a + 3))] (hp S D) Q := w_getR dX8_count_95 (t := 0) (j := 2) (c := 2) (by decide +kernel) (by decide) rfl (ln_ok (by decide) (by decide)) ha
theorem s89_98 (ha : tg a = 6) : wp 89 98 [l0, l1] [.inr (.inl a)] (hp S D) Q ↔ wp 65 0 [.inr (.inl a), .inr (.inl 0), .inr (.inl 0), .inr (.inl 0)] [] (hp S D) (kont 89 101 [l0, l1] [] Q) := w_callV (y2 := 65) (vs := []) (st := []) dX8_count_98 (by decide +kernel) rfl (by decide +kernel) (Nat.le_of_ble_eq_true rfl) (eSm_4 (by simp)) 6 rfl (by decide) ha
theorem s89_101  : wp 89 101 [l0, l1] [.inl x] h Q ↔ Q (some (.inl x)) h := w_reti dX8_count_101 (e_ri (by decide +kernel))
theorem s89_102 (h0 : a ≠ 0) : wp 89 102 [.inr (.inl a), l1] [] h Q ↔ wp 89 103 [.inr (.inl a), l1] [.inr (.inl a)] h Q := wp_step dX8_count_102 (fun _ => if_neg h0)
theorem s89_103 (ha : tg a = 7) : wp 89 103 [l0, l1] [.inr (.inl a)] (hp S D) Q ↔ wp 89 106 [l0, l1] [.inr (.inl (a + 1))] (hp S D) Q := w_getR dX8_count_103 (t := 7) (j := 0) (c := 2) (by decide +kernel) (by decide) rfl (ln_ok (by decide) (by decide)) ha
theorem s89_106 (ha : tg a = 0) : wp 89 106 [l0, l1] [.inr (.inl a)] (hp S D) Q ↔ wp 89 109 [l0, l1] [.inr (.inl (a + 3))] (hp S D) Q := w_getR dX8_count_106 (t := 0) (j := 2) (c := 2) (by decide +kernel) (by decide) rfl (ln_ok (by decide) (by decide)) ha
theorem s89_109 (ha : tg a = 6) : wp 89 109 [l0, l1] [.inr (.inl a)] (hp S D) Q ↔ wp 66 0 [.inr (.inl a), .inr (.inl 0), .inr (.inl 0), .inr (.inl 0)] [] (hp S D) (kont 89 112 [l0, l1] [] Q) := w_callV (y2 := 66) (vs := []) (st := []) dX8_count_109 (by decide +kernel) rfl (by decide +kernel) (Nat.le_of_ble_eq_true rfl) (eSm_4 (by simp)) 6 rfl (by decide) ha
theorem s89_112  : wp 89 112 [l0, l1] [.inl x] h Q ↔ Q (some (.inl x)) h := w_reti dX8_count_112 (e_ri (by decide +kernel))
theorem s89_113 (h0 : a ≠ 0) : wp 89 113 [.inr (.inl a), l1] [] h Q ↔ wp 89 114 [.inr (.inl a), l1] [.inr (.inl a)] h Q := wp_step dX8_count_113 (fun _ => if_neg h0)
theorem s89_114 (ha : tg a = 7) : wp 89 114 [l0, l1] [.inr (.inl a)] (hp S D) Q ↔ wp 89 117 [l0, l1] [.inr (.inl (a + 1))] (hp S D) Q := w_getR dX8_count_114 (t := 7) (j := 0) (c := 2) (by decide +kernel) (by decide) rfl (ln_ok (by decide) (by decide)) ha
theorem s89_117 (ha : tg a = 0) : wp 89 117 [l0, l1] [.inr (.inl a)] (hp S D) Q ↔ wp 89 120 [l0, l1] [.inr (.inl (a + 2))] (hp S D) Q := w_getR dX8_count_117 (t := 0) (j := 1) (c := 2) (by decide +kernel) (by decide) rfl (ln_ok (by decide) (by decide)) ha
theorem s89_120  : wp 89 120 [l0, .inl x] [v0] h Q ↔ wp 89 121 [l0, .inl x] [.inl x, v0] h Q := wp_step dX8_count_120 (fun _ => rfl)
theorem s89_121  : wp 89 121 [l0, l1] [v0, v1] h Q ↔ wp 89 122 [l0, l1] [.inl 4, v0, v1] h Q := w_const1 dX8_count_121 k_4
theorem s89_122  : wp 89 122 [l0, l1] [.inl z, .inl x, v0] h Q ↔ wp 89 123 [l0, l1] [.inl (w32 (x - z)), v0] h Q := wp_step dX8_count_122 (fun _ => rfl)
theorem s89_123  : wp 89 123 [l0, l1] [.inl x1, .inr (.inl a0)] h Q ↔ wp 51 0 [.inr (.inl a0), .inl x1] [] h (kont 89 126 [l0, l1] [] Q) := w_callS (y2 := 51) (kd := 0) (vs := [.inr (.inl a0), .inl x1]) (st := []) dX8_count_123 (by decide +kernel) (by decide) rfl (by decide +kernel) (Nat.le_of_ble_eq_true rfl) (eSm_4 (by simp))
theorem s89_126  : wp 89 126 [l0, l1] [.inl x] h Q ↔ Q (some (.inl x)) h := w_reti dX8_count_126 (e_ri (by decide +kernel))
theorem s89_127 (h0 : a ≠ 0) : wp 89 127 [.inr (.inl a), l1] [] h Q ↔ wp 89 128 [.inr (.inl a), l1] [.inr (.inl a)] h Q := wp_step dX8_count_127 (fun _ => if_neg h0)
theorem s89_128 (ha : tg a = 7) : wp 89 128 [l0, l1] [.inr (.inl a)] (hp S D) Q ↔ wp 89 131 [l0, l1] [.inr (.inl (a + 1))] (hp S D) Q := w_getR dX8_count_128 (t := 7) (j := 0) (c := 2) (by decide +kernel) (by decide) rfl (ln_ok (by decide) (by decide)) ha
theorem s89_131 (ha : tg a = 0) : wp 89 131 [l0, l1] [.inr (.inl a)] (hp S D) Q ↔ wp 89 134 [l0, l1] [.inl (D a 8)] (hp S D) Q := w_getI dX8_count_131 (t := 0) (j := 8) (c := 0) (by decide +kernel) (by decide) rfl (ln_ok (by decide) (by decide)) ha
theorem s89_134  : wp 89 134 [l0, l1] [.inl x] h Q ↔ Q (some (.inl x)) h := w_reti dX8_count_134 (e_ri (by decide +kernel))
theorem s89_135 (h0 : a ≠ 0) : wp 89 135 [.inr (.inl a), l1] [] h Q ↔ wp 89 136 [.inr (.inl a), l1] [.inr (.inl a)] h Q := wp_step dX8_count_135 (fun _ => if_neg h0)
theorem s89_136 (ha : tg a = 7) : wp 89 136 [l0, l1] [.inr (.inl a)] (hp S D) Q ↔ wp 89 139 [l0, l1] [.inr (.inl (a + 1))] (hp S D) Q := w_getR dX8_count_136 (t := 7) (j := 0) (c := 2) (by decide +kernel) (by decide) rfl (ln_ok (by decide) (by decide)) ha
theorem s89_139 (ha : tg a = 0) : wp 89 139 [l0, l1] [.inr (.inl a)] (hp S D) Q ↔ wp 89 142 [l0, l1] [.inl (D a 9)] (hp S D) Q := w_getI dX8_count_139 (t := 0) (j := 9) (c := 0) (by decide +kernel) (by decide) rfl (ln_ok (by decide) (by decide)) ha
theorem s89_142  : wp 89 142 [l0, l1] [.inl x] h Q ↔ Q (some (.inl x)) h := w_reti dX8_count_142 (e_ri (by decide +kernel))
theorem s89_143 (h0 : a ≠ 0) : wp 89 143 [.inr (.inl a), l1] [] h Q ↔ wp 89 144 [.inr (.inl a), l1] [.inr (.inl a)] h Q := wp_step dX8_count_143 (fun _ => if_neg h0)
theorem s89_144 (ha : tg a = 7) : wp 89 144 [l0, l1] [.inr (.inl a)] (hp S D) Q ↔ wp 89 147 [l0, l1] [.inr (.inl (a + 1))] (hp S D) Q := w_getR dX8_count_144 (t := 7) (j := 0) (c := 2) (by decide +kernel) (by decide) rfl (ln_ok (by decide) (by decide)) ha
theorem s89_147 (ha : tg a = 0) : wp 89 147 [l0, l1] [.inr (.inl a)] (hp S D) Q ↔ wp 89 150 [l0, l1] [.inl (D a 10)] (hp S D) Q := w_getI dX8_count_147 (t := 0) (j := 10) (c := 0) (by decide +kernel) (by decide) rfl (ln_ok (by decide) (by decide)) ha
theorem s89_150  : wp 89 150 [l0, l1] [.inl x] h Q ↔ Q (some (.inl x)) h := w_reti dX8_count_150 (e_ri (by decide +kernel))
theorem s89_151 (h0 : a ≠ 0) : wp 89 151 [.inr (.inl a), l1] [] h Q ↔ wp 89 152 [.inr (.inl a), l1] [.inr (.inl a)] h Q := wp_step dX8_count_151 (fun _ => if_neg h0)
theorem s89_152 (ha : tg a = 7) : wp 89 152 [l0, l1] [.inr (.inl a)] (hp S D) Q ↔ wp 89 155 [l0, l1] [.inr (.inl (a + 1))] (hp S D) Q := w_getR dX8_count_152 (t := 7) (j := 0) (c := 2) (by decide +kernel) (by decide) rfl (ln_ok (by decide) (by decide)) ha
theorem s89_155 (ha : tg a = 0) : wp 89 155 [l0, l1] [.inr (.inl a)] (hp S D) Q ↔ wp 89 158 [l0, l1] [.inl (D a 11)] (hp S D) Q := w_getI dX8_count_155 (t := 0) (j := 11) (c := 0) (by decide +kernel) (by decide) rfl (ln_ok (by decide) (by decide)) ha
theorem s89_158  : wp 89 158 [l0, l1] [.inl x] h Q ↔ Q (some (.inl x)) h := w_reti dX8_count_158 (e_ri (by decide +kernel))
theorem s89_159 (h0 : a ≠ 0) : wp 89 159 [.inr (.inl a), l1] [] h Q ↔ wp 89 160 [.inr (.inl a), l1] [.inr (.inl a)] h Q := wp_step dX8_count_159 (fun _ => if_neg h0)
theorem s89_160 (ha : tg a = 7) : wp 89 160 [l0, l1] [.inr (.inl a)] (hp S D) Q ↔ wp 89 163 [l0, l1] [.inr (.inl (a + 1))] (hp S D) Q := w_getR dX8_count_160 (t := 7) (j := 0) (c := 2) (by decide +kernel) (by decide) rfl (ln_ok (by decide) (by decide)) ha
theorem s89_163 (ha : tg a = 0) : wp 89 163 [l0, l1] [.inr (.inl a)] (hp S D) Q ↔ wp 89 166 [l0, l1] [.inr (.inl (a + 12))] (hp S D) Q := w_getR dX8_count_163 (t := 0) (j := 3) (c := 2) (by decide +kernel) (by decide) rfl (ln_ok (by decide) (by decide)) ha
theorem s89_166 (ha : tg a = 4) : wp 89 166 [l0, l1] [.inr (.inl a)] (hp S D) Q ↔ wp 89 169 [l0, l1] [.inl (D a 3)] (hp S D) Q := w_getI dX8_count_166 (t := 4) (j := 3) (c := 0) (by decide +kernel) (by decide) rfl (ln_ok (by decide) (by decide)) ha
theorem s89_169  : wp 89 169 [l0, l1] [.inl x] h Q ↔ Q (some (.inl x)) h := w_reti dX8_count_169 (e_ri (by decide +kernel))
theorem s89_170 (h0 : a ≠ 0) : wp 89 170 [.inr (.inl a), l1] [] h Q ↔ wp 89 171 [.inr (.inl a), l1] [.inr (.inl a)] h Q := wp_step dX8_count_170 (fun _ => if_neg h0)
theorem s89_171 (ha : tg a = 7) : wp 89 171 [l0, l1] [.inr (.inl a)] (hp S D) Q ↔ wp 89 174 [l0, l1] [.inr (.inl (a + 62))] (hp S D) Q := w_getR dX8_count_171 (t := 7) (j := 4) (c := 2) (by decide +kernel) (by decide) rfl (ln_ok (by decide) (by decide)) ha
theorem s89_174 (ha : tg a = 2) : wp 89 174 [l0, l1] [.inr (.inl a)] (hp S D) Q ↔ wp 89 177 [l0, l1] [.inl (D a 1)] (hp S D) Q := w_getI dX8_count_174 (t := 2) (j := 1) (c := 0) (by decide +kernel) (by decide) rfl (ln_ok (by decide) (by decide)) ha
theorem s89_177  : wp 89 177 [l0, l1] [.inl x] h Q ↔ Q (some (.inl x)) h := w_reti dX8_count_177 (e_ri (by decide +kernel))
theorem s89_178 (h0 : a ≠ 0) : wp 89 178 [.inr (.inl a), l1] [] h Q ↔ wp 89 179 [.inr (.inl a), l1] [.inr (.inl a)] h Q := wp_step dX8_count_178 (fun _ => if_neg h0)
theorem s89_179 (ha : tg a = 7) : wp 89 179 [l0, l1] [.inr (.inl a)] (hp S D) Q ↔ wp 89 182 [l0, l1] [.inr (.inl (a + 144))] (hp S D) Q := w_getR dX8_count_179 (t := 7) (j := 5) (c := 2) (by decide +kernel) (by decide) rfl (ln_ok (by decide) (by decide)) ha
theorem s89_182 (ha : tg a = 5) : wp 89 182 [l0, l1] [.inr (.inl a)] (hp S D) Q ↔ wp 89 185 [l0, l1] [.inl (D a 1)] (hp S D) Q := w_getI dX8_count_182 (t := 5) (j := 1) (c := 0) (by decide +kernel) (by decide) rfl (ln_ok (by decide) (by decide)) ha
theorem s89_185  : wp 89 185 [l0, l1] [.inl x] h Q ↔ Q (some (.inl x)) h := w_reti dX8_count_185 (e_ri (by decide +kernel))
theorem s89_186  : wp 89 186 [l0, l1] [] h Q ↔ wp 89 188 [l0, l1] [.inl (-2)] h Q := w_const2 dX8_count_186 k_m2 k8_m2
theorem s89_188  : wp 89 188 [l0, l1] [.inl x] h Q ↔ Q (some (.inl x)) h := w_reti dX8_count_188 (e_ri (by decide +kernel))
theorem s90_0  : wp 90 0 [l0, .inl x] [] h Q ↔ wp 90 1 [l0, .inl x] [.inl x] h Q := wp_step dX8_setting_0 (fun _ => rfl)
theorem s90_1  : wp 90 1 [l0, l1] [.inl x0] h Q ↔ wp 92 0 [.inl x0] [] h (kont 90 4 [l0, l1] [] Q) := w_callS (y2 := 92) (kd := 0) (vs := [.inl x0]) (st := []) dX8_setting_1 (by decide +kernel) (by decide) rfl (by decide +kernel) (Nat.le_of_ble_eq_true rfl) (eSm_4 (by simp))
theorem s90_4  : wp 90 4 [l0, l1] [.inl x] h Q ↔ if x = 0 then wp 90 7 [l0, l1] [] h Q else wp 90 9 [l0, l1] [] h Q := w_ne0 dX8_setting_4 (by decide)
theorem s90_7  : wp 90 7 [l0, l1] [] h Q ↔ wp 90 8 [l0, l1] [.inl (-1)] h Q := w_const1 dX8_setting_7 k_m1
theorem s90_8  : wp 90 8 [l0, l1] [.inl x] h Q ↔ Q (some (.inl x)) h := w_reti dX8_setting_8 (e_ri (by decide +kernel))
theorem s90_9 (h0 : a ≠ 0) : wp 90 9 [.inr (.inl a), l1] [] h Q ↔ wp 90 10 [.inr (.inl a), l1] [.inr (.inl a)] h Q := wp_step dX8_setting_9 (fun _ => if_neg h0)
theorem s90_10 (ha : tg a = 7) : wp 90 10 [l0, l1] [.inr (.inl a)] (hp S D) Q ↔ wp 90 13 [l0, l1] [.inr (.inl (a + 1))] (hp S D) Q := w_getR dX8_setting_10 (t := 7) (j := 0) (c := 2) (by decide +kernel) (by decide) rfl (ln_ok (by decide) (by decide)) ha
theorem s90_13 (ha : tg a = 0) : wp 90 13 [l0, l1] [.inr (.inl a)] (hp S D) Q ↔ wp 90 16 [l0, l1] [.inr (.inl (a + 1))] (hp S D) Q := w_getR dX8_setting_13 (t := 0) (j := 0) (c := 2) (by decide +kernel) (by decide) rfl (ln_ok (by decide) (by decide)) ha
theorem s90_16  : wp 90 16 [l0, .inl x] [v0] h Q ↔ wp 90 17 [l0, .inl x] [.inl x, v0] h Q := wp_step dX8_setting_16 (fun _ => rfl)
theorem s90_17  : wp 90 17 [l0, l1] [.inl x1, .inr (.inl a0)] h Q ↔ wp 51 0 [.inr (.inl a0), .inl x1] [] h (kont 90 20 [l0, l1] [] Q) := w_callS (y2 := 51) (kd := 0) (vs := [.inr (.inl a0), .inl x1]) (st := []) dX8_setting_17 (by decide +kernel) (by decide) rfl (by decide +kernel) (Nat.le_of_ble_eq_true rfl) (eSm_4 (by simp))
theorem s90_20  : wp 90 20 [l0, l1] [.inl x] h Q ↔ Q (some (.inl x)) h := w_reti dX8_setting_20 (e_ri (by decide +kernel))
theorem s91_0  : wp 91 0 [.inl x, l1, l2] [] h Q ↔ wp 91 1 [.inl x, l1, l2] [.inl x] h Q := wp_step dX8_isFromTo_0 (fun _ => rfl)
theorem s91_1  : wp 91 1 [l0, .inl x, l2] [v0] h Q ↔ wp 91 2 [l0, .inl x, l2] [.inl x, v0] h Q := wp_step dX8_isFromTo_1 (fun _ => rfl)
theorem s91_2  : wp 91 2 [l0, l1, l2] [.inl z, .inl x] h Q ↔ if x < z then wp 91 14 [l0, l1, l2] [] h Q else wp 91 5 [l0, l1, l2] [] h Q := w_clt dX8_isFromTo_2 (by decide)
theorem s91_5  : wp 91 5 [.inl x, l1, l2] [] h Q ↔ wp 91 6 [.inl x, l1, l2] [.inl x] h Q := wp_step dX8_isFromTo_5 (fun _ => rfl)
theorem s91_6  : wp 91 6 [l0, l1, .inl x] [v0] h Q ↔ wp 91 7 [l0, l1, .inl x] [.inl x, v0] h Q := wp_step dX8_isFromTo_6 (fun _ => rfl)
theorem s91_7  : wp 91 7 [l0, l1, l2] [.inl z, .inl x] h Q ↔ if z < x then wp 91 14 [l0, l1, l2] [] h Q else wp 91 10 [l0, l1, l2] [] h Q := w_cgt dX8_isFromTo_7 (by decide)
theorem s91_10  : wp 91 10 [l0, l1, l2] [] h Q ↔ wp 91 11 [l0, l1, l2] [.inl 1] h Q := w_const1 dX8_isFromTo_10 k_1
theorem s91_11  : wp 91 11 [l0, l1, l2] [v0] h Q ↔ wp 91 15 [l0, l1, l2] [v0] h Q := w_goto dX8_isFromTo_11 (by decide)
theorem s91_14  : wp 91 14 [l0, l1, l2] [] h Q ↔ wp 91 15 [l0, l1, l2] [.inl 0] h Q := w_const1 dX8_isFromTo_14 k_0
theorem s91_15 (h0 : x = 0 ∨ x = 1) : wp 91 15 [l0, l1, l2] [.inl x] h Q ↔ Q (some (.inl x)) h := w_reti dX8_isFromTo_15 (e_rz (by decide +kernel) h0)
theorem s92_0  : wp 92 0 [.inl x] [] h Q ↔ wp 92 1 [.inl x] [.inl x] h Q := wp_step dX8_isSetting_0 (fun _ => rfl)
theorem s92_1  : wp 92 1 [l0] [v0] h Q ↔ wp 92 2 [l0] [.inl 0, v0] h Q := w_const1 dX8_isSetting_1 k_0
theorem s92_2  : wp 92 2 [l0] [v0, v1] h Q ↔ wp 92 5 [l0] [.inr (.inl 1), v0, v1] h Q := w_stat dX8_isSetting_2 (by decide +kernel)
theorem s92_5 (ha : tg a = 100) (hS : S.length ≤ 2048) : wp 92 5 [l0] [.inr (.inl a), v0, v1] (hp S D) Q ↔ wp 92 6 [l0] [.inl (ln S a), v0, v1] (hp S D) Q := w_len dX8_isSetting_5 (by simp [ha]) (ln_lt hS a)
theorem s92_6  : wp 92 6 [l0] [v0, v1, v2] h Q ↔ wp 92 7 [l0] [.inl 1, v0, v1, v2] h Q := w_const1 dX8_isSetting_6 k_1
theorem s92_7  : wp 92 7 [l0] [.inl z, .inl x, v0, v1] h Q ↔ wp 92 8 [l0] [.inl (w32 (x - z)), v0, v1] h Q := wp_step dX8_isSetting_7 (fun _ => rfl)
theorem s92_8  : wp 92 8 [l0] [.inl x2, .inl x1, .inl x0] h Q ↔ wp 91 0 [.inl x0, .inl x1, .inl x2] [] h (kont 92 11 [l0] [] Q) := w_callS (y2 := 91) (kd := 0) (vs := [.inl x0, .inl x1, .inl x2]) (st := []) dX8_isSetting_8 (by decide +kernel) (by decide) rfl (by decide +kernel) (Nat.le_of_ble_eq_true rfl) (eSm_4 (by simp))
theorem s92_11 (h0 : x = 0 ∨ x = 1) : wp 92 11 [l0] [.inl x] h Q ↔ Q (some (.inl x)) h := w_reti dX8_isSetting_11 (e_rz (by decide +kernel) h0)
theorem s93_0  : wp 93 0 [.inl x] [] h Q ↔ wp 93 1 [.inl x] [.inl x] h Q := wp_step dX8_isPlaceOfDay_0 (fun _ => rfl)
theorem s93_1  : wp 93 1 [l0] [v0] h Q ↔ wp 93 2 [l0] [.inl 0, v0] h Q := w_const1 dX8_isPlaceOfDay_1 k_0
theorem s93_2  : wp 93 2 [l0] [v0, v1] h Q ↔ wp 93 4 [l0] [.inl 47, v0, v1] h Q := w_const2 dX8_isPlaceOfDay_2 k_47 k8_47
theorem s93_4  : wp 93 4 [l0] [.inl x2, .inl x1, .inl x0] h Q ↔ wp 91 0 [.inl x0, .inl x1, .inl x2] [] h (kont 93 7 [l0] [] Q) := w_callS (y2 := 91) (kd := 0) (vs := [.inl x0, .inl x1, .inl x2]) (st := []) dX8_isPlaceOfDay_4 (by decide +kernel) (by decide) rfl (by decide +kernel) (Nat.le_of_ble_eq_true rfl) (eSm_4 (by simp))
theorem s93_7 (h0 : x = 0 ∨ x = 1) : wp 93 7 [l0] [.inl x] h Q ↔ Q (some (.inl x)) h := w_reti dX8_isPlaceOfDay_7 (e_rz (by decide +kernel) h0)
theorem s94_0  : wp 94 0 [.inl x] [] h Q ↔ wp 94 1 [.inl x] [.inl x] h Q := wp_step dX8_isSocket_0 (fun _ => rfl)
theorem s94_1  : wp 94 1 [l0] [v0] h Q ↔ wp 94 2 [l0] [.inl 0, v0] h Q := w_const1 dX8_isSocket_1 k_0
theorem s94_2  : wp 94 2 [l0] [v0, v1] h Q ↔ wp 94 3 [l0] [.inl 5, v0, v1] h Q := w_const1 dX8_isSocket_2 k_5
theorem s94_3  : wp 94 3 [l0] [.inl x2, .inl x1, .inl x0] h Q ↔ wp 91 0 [.inl x0, .inl x1, .inl x2] [] h (kont 94 6 [l0] [] Q) := w_callS (y2 := 91) (kd := 0) (vs := [.inl x0, .inl x1, .inl x2]) (st := []) dX8_isSocket_3 (by decide +kernel) (by decide) rfl (by decide +kernel) (Nat.le_of_ble_eq_true rfl) (eSm_4 (by simp))
theorem s94_6 (h0 : x = 0 ∨ x = 1) : wp 94 6 [l0] [.inl x] h Q ↔ Q (some (.inl x)) h := w_reti dX8_isSocket_6 (e_rz (by decide +kernel) h0)
theorem s95_0  : wp 95 0 [.inl x] [] h Q ↔ wp 95 1 [.inl x] [.inl x] h Q := wp_step dX8_isKind_0 (fun _ => rfl)
theorem s95_1  : wp 95 1 [l0] [v0] h Q ↔ wp 95 2 [l0] [.inl 0, v0] h Q := w_const1 dX8_isKind_1 k_0
theorem s95_2  : wp 95 2 [l0] [v0, v1] h Q ↔ wp 95 3 [l0] [.inl 2, v0, v1] h Q := w_const1 dX8_isKind_2 k_2
theorem s95_3  : wp 95 3 [l0] [.inl x2, .inl x1, .inl x0] h Q ↔ wp 91 0 [.inl x0, .inl x1, .inl x2] [] h (kont 95 6 [l0] [] Q) := w_callS (y2 := 91) (kd := 0) (vs := [.inl x0, .inl x1, .inl x2]) (st := []) dX8_isKind_3 (by decide +kernel) (by decide) rfl (by decide +kernel) (Nat.le_of_ble_eq_true rfl) (eSm_4 (by simp))
theorem s95_6 (h0 : x = 0 ∨ x = 1) : wp 95 6 [l0] [.inl x] h Q ↔ Q (some (.inl x)) h := w_reti dX8_isKind_6 (e_rz (by decide +kernel) h0)
theorem s96_0  : wp 96 0 [.inl x] [] h Q ↔ wp 96 1 [.inl x] [.inl x] h Q := wp_step dX8_isLoad_0 (fun _ => rfl)
theorem s96_1  : wp 96 1 [l0] [v0] h Q ↔ wp 96 2 [l0] [.inl 1, v0] h Q := w_const1 dX8_isLoad_1 k_1
theorem s96_2  : wp 96 2 [l0] [v0, v1] h Q ↔ wp 96 4 [l0] [.inl 6, v0, v1] h Q := w_const2 dX8_isLoad_2 k_6 k8_6
theorem s96_4  : wp 96 4 [l0] [.inl x2, .inl x1, .inl x0] h Q ↔ wp 91 0 [.inl x0, .inl x1, .inl x2] [] h (kont 96 7 [l0] [] Q) := w_callS (y2 := 91) (kd := 0) (vs := [.inl x0, .inl x1, .inl x2]) (st := []) dX8_isLoad_4 (by decide +kernel) (by decide) rfl (by decide +kernel) (Nat.le_of_ble_eq_true rfl) (eSm_4 (by simp))
theorem s96_7 (h0 : x = 0 ∨ x = 1) : wp 96 7 [l0] [.inl x] h Q ↔ Q (some (.inl x)) h := w_reti dX8_isLoad_7 (e_rz (by decide +kernel) h0)
theorem s97_0  : wp 97 0 [.inl x] [] h Q ↔ wp 97 1 [.inl x] [.inl x] h Q := wp_step dX8_oneIf_0 (fun _ => rfl)
theorem s97_1  : wp 97 1 [l0] [.inl x] h Q ↔ if x = 0 then wp 97 8 [l0] [] h Q else wp 97 4 [l0] [] h Q := w_eq0 dX8_oneIf_1 (by decide)
theorem s97_4  : wp 97 4 [l0] [] h Q ↔ wp 97 5 [l0] [.inl 1] h Q := w_const1 dX8_oneIf_4 k_1
theorem s97_5  : wp 97 5 [l0] [v0] h Q ↔ wp 97 9 [l0] [v0] h Q := w_goto dX8_oneIf_5 (by decide)
theorem s97_8  : wp 97 8 [l0] [] h Q ↔ wp 97 9 [l0] [.inl 0] h Q := w_const1 dX8_oneIf_8 k_0
theorem s97_9  : wp 97 9 [l0] [.inl x] h Q ↔ Q (some (.inl x)) h := w_reti dX8_oneIf_9 (e_ri (by decide +kernel))
theorem s98_0  : wp 98 0 [.inl x, l1, l2] [] h Q ↔ wp 98 1 [.inl x, l1, l2] [.inl x] h Q := wp_step dJ9_floorMod_7cf53_0 (fun _ => rfl)
theorem s98_1  : wp 98 1 [l0, .inl x, l2] [v0] h Q ↔ wp 98 2 [l0, .inl x, l2] [.inl x, v0] h Q := wp_step dJ9_floorMod_7cf53_1 (fun _ => rfl)
theorem s98_2 (h0 : z ≠ 0) : wp 98 2 [l0, l1, l2] [.inl z, .inl x] h Q ↔ wp 98 3 [l0, l1, l2] [.inl (w32 (x.tmod z))] h Q := w_rem dJ9_floorMod_7cf53_2 h0
theorem s98_3  : wp 98 3 [l0, l1, l2] [.inl x] h Q ↔ wp 98 4 [l0, l1, .inl x] [] h Q := wp_step dJ9_floorMod_7cf53_3 (fun _ => rfl)
theorem s98_4  : wp 98 4 [.inl x, l1, l2] [] h Q ↔ wp 98 5 [.inl x, l1, l2] [.inl x] h Q := wp_step dJ9_floorMod_7cf53_4 (fun _ => rfl)
theorem s98_5  : wp 98 5 [l0, .inl x, l2] [v0] h Q ↔ wp 98 6 [l0, .inl x, l2] [.inl x, v0] h Q := wp_step dJ9_floorMod_7cf53_5 (fun _ => rfl)
theorem s98_6  : wp 98 6 [l0, l1, l2] [.inl z, .inl x] h Q ↔ wp 98 7 [l0, l1, l2] [.inl (Int32.ofInt x ^^^ Int32.ofInt z).toInt] h Q := wp_step dJ9_floorMod_7cf53_6 (fun _ => rfl)
theorem s98_7  : wp 98 7 [l0, l1, l2] [.inl x] h Q ↔ if x < 0 then wp 98 10 [l0, l1, l2] [] h Q else wp 98 18 [l0, l1, l2] [] h Q := w_ge0 dJ9_floorMod_7cf53_7 (by decide)
theorem s98_10  : wp 98 10 [l0, l1, .inl x] [] h Q ↔ wp 98 11 [l0, l1, .inl x] [.inl x] h Q := wp_step dJ9_floorMod_7cf53_10 (fun _ => rfl)
theorem s98_11  : wp 98 11 [l0, l1, l2] [.inl x] h Q ↔ if x = 0 then wp 98 18 [l0, l1, l2] [] h Q else wp 98 14 [l0, l1, l2] [] h Q := w_eq0 dJ9_floorMod_7cf53_11 (by decide)
theorem s98_14  : wp 98 14 [l0, l1, .inl x] [] h Q ↔ wp 98 15 [l0, l1, .inl x] [.inl x] h Q := wp_step dJ9_floorMod_7cf53_14 (fun _ => rfl)
theorem s98_15  : wp 98 15 [l0, .inl x, l2] [v0] h Q ↔ wp 98 16 [l0, .inl x, l2] [.inl x, v0] h Q := wp_step dJ9_floorMod_7cf53_15 (fun _ => rfl)
theorem s98_16  : wp 98 16 [l0, l1, l2] [.inl z, .inl x] h Q ↔ wp 98 17 [l0, l1, l2] [.inl (w32 (x + z))] h Q := wp_step dJ9_floorMod_7cf53_16 (fun _ => rfl)
theorem s98_17  : wp 98 17 [l0, l1, l2] [.inl x] h Q ↔ Q (some (.inl x)) h := w_reti dJ9_floorMod_7cf53_17 (e_ri (by decide +kernel))
theorem s98_18  : wp 98 18 [l0, l1, .inl x] [] h Q ↔ wp 98 19 [l0, l1, .inl x] [.inl x] h Q := wp_step dJ9_floorMod_7cf53_18 (fun _ => rfl)
theorem s98_19  : wp 98 19 [l0, l1, l2] [.inl x] h Q ↔ Q (some (.inl x)) h := w_reti dJ9_floorMod_7cf53_19 (e_ri (by decide +kernel))
theorem s99_0  : wp 99 0 [.inl x, l1] [] h Q ↔ wp 99 1 [.inl x, l1] [.inl x] h Q := wp_step dJ9_max_7cf53_0 (fun _ => rfl)
theorem s99_1  : wp 99 1 [l0, .inl x] [v0] h Q ↔ wp 99 2 [l0, .inl x] [.inl x, v0] h Q := wp_step dJ9_max_7cf53_1 (fun _ => rfl)
theorem s99_2  : wp 99 2 [l0, l1] [.inl z, .inl x] h Q ↔ if x < z then wp 99 9 [l0, l1] [] h Q else wp 99 5 [l0, l1] [] h Q := w_clt dJ9_max_7cf53_2 (by decide)
theorem s99_5  : wp 99 5 [.inl x, l1] [] h Q ↔ wp 99 6 [.inl x, l1] [.inl x] h Q := wp_step dJ9_max_7cf53_5 (fun _ => rfl)
theorem s99_6  : wp 99 6 [l0, l1] [v0] h Q ↔ wp 99 10 [l0, l1] [v0] h Q := w_goto dJ9_max_7cf53_6 (by decide)
theorem s99_9  : wp 99 9 [l0, .inl x] [] h Q ↔ wp 99 10 [l0, .inl x] [.inl x] h Q := wp_step dJ9_max_7cf53_9 (fun _ => rfl)
theorem s99_10  : wp 99 10 [l0, l1] [.inl x] h Q ↔ Q (some (.inl x)) h := w_reti dJ9_max_7cf53_10 (e_ri (by decide +kernel))
theorem s100_0  : wp 100 0 [.inl x, l1] [] h Q ↔ wp 100 1 [.inl x, l1] [.inl x] h Q := wp_step dJ9_min_7cf53_0 (fun _ => rfl)
theorem s100_1  : wp 100 1 [l0, .inl x] [v0] h Q ↔ wp 100 2 [l0, .inl x] [.inl x, v0] h Q := wp_step dJ9_min_7cf53_1 (fun _ => rfl)
theorem s100_2  : wp 100 2 [l0, l1] [.inl z, .inl x] h Q ↔ if z < x then wp 100 9 [l0, l1] [] h Q else wp 100 5 [l0, l1] [] h Q := w_cgt dJ9_min_7cf53_2 (by decide)
theorem s100_5  : wp 100 5 [.inl x, l1] [] h Q ↔ wp 100 6 [.inl x, l1] [.inl x] h Q := wp_step dJ9_min_7cf53_5 (fun _ => rfl)
theorem s100_6  : wp 100 6 [l0, l1] [v0] h Q ↔ wp 100 10 [l0, l1] [v0] h Q := w_goto dJ9_min_7cf53_6 (by decide)
theorem s100_9  : wp 100 9 [l0, .inl x] [] h Q ↔ wp 100 10 [l0, .inl x] [.inl x] h Q := wp_step dJ9_min_7cf53_9 (fun _ => rfl)
theorem s100_10  : wp 100 10 [l0, l1] [.inl x] h Q ↔ Q (some (.inl x)) h := w_reti dJ9_min_7cf53_10 (e_ri (by decide +kernel))
end ESTEP
