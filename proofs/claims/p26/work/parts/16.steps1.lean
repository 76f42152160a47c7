section ESTEP
variable {l0 l1 l2 l3 l4 l5 l6 l7 l8 l9 v0 v1 v2 v3 v4 v5 v6 v7 p q p0 p1 p2 p3 : eV} {a a0 a1 a2 a3 : Nat} {x z x0 x1 x2 x3 x4 x5 : Int} {w w0 w1 w2 w3 : Int64} {h : eH} {Q : Option eV → eH → Prop} {S : List Int} {D : eD}
theorem s15_0 (h0 : a ≠ 0) : wp 15 0 [.inr (.inl a)] [] h Q ↔ wp 15 1 [.inr (.inl a)] [.inr (.inl a)] h Q := wp_step dX1_init_0 (fun _ => if_neg h0)
theorem s15_1 (h8 : 8 ≤ a) : wp 15 1 [l0] [.inr (.inl a)] h Q ↔ wp 15 4 [l0] [] h Q := w_callO dX1_init_1 (y2 := 0) (by decide +kernel) ⟨eSm_4 (by simp), by decide +kernel, by decide +kernel⟩ h8
theorem s15_4 (h0 : a ≠ 0) : wp 15 4 [.inr (.inl a)] [] h Q ↔ wp 15 5 [.inr (.inl a)] [.inr (.inl a)] h Q := wp_step dX1_init_4 (fun _ => if_neg h0)
theorem s15_5  : wp 15 5 [l0] [v0] h Q ↔ wp 15 7 [l0] [.inl 10, v0] h Q := w_const2 dX1_init_5 k_10 k8_10
theorem s15_12 (h0 : a ≠ 0) : wp 15 12 [.inr (.inl a)] [] h Q ↔ wp 15 13 [.inr (.inl a)] [.inr (.inl a)] h Q := wp_step dX1_init_12 (fun _ => if_neg h0)
theorem s15_13  : wp 15 13 [l0] [v0] h Q ↔ wp 15 15 [l0] [.inl 10, v0] h Q := w_const2 dX1_init_13 k_10 k8_10
theorem s15_20 (h0 : a ≠ 0) : wp 15 20 [.inr (.inl a)] [] h Q ↔ wp 15 21 [.inr (.inl a)] [.inr (.inl a)] h Q := wp_step dX1_init_20 (fun _ => if_neg h0)
theorem s15_21  : wp 15 21 [l0] [v0] h Q ↔ wp 15 23 [l0] [.inl 10, v0] h Q := w_const2 dX1_init_21 k_10 k8_10
theorem s15_28  : wp 15 28 [l0] [] h Q ↔ Q none h := w_retv dX1_init_28 (by decide +kernel)
theorem s16_0 (h0 : a ≠ 0) : wp 16 0 [l0, .inr (.inl a)] [] h Q ↔ wp 16 1 [l0, .inr (.inl a)] [.inr (.inl a)] h Q := wp_step dX1_copyFrom_0 (fun _ => if_neg h0)
theorem s16_1 (ha : tg a = 1) : wp 16 1 [l0, l1] [.inr (.inl a)] (hp S D) Q ↔ wp 16 4 [l0, l1] [.inr (.inl (a + 1))] (hp S D) Q := w_getR dX1_copyFrom_1 (t := 1) (j := 0) (c := 2) (by decide +kernel) (by decide) rfl (ln_ok (by decide) (by decide)) ha
theorem s16_4 (h0 : a ≠ 0) : wp 16 4 [.inr (.inl a), l1] [v0] h Q ↔ wp 16 5 [.inr (.inl a), l1] [.inr (.inl a), v0] h Q := wp_step dX1_copyFrom_4 (fun _ => if_neg h0)
theorem s16_5 (ha : tg a = 1) : wp 16 5 [l0, l1] [.inr (.inl a), v0] (hp S D) Q ↔ wp 16 8 [l0, l1] [.inr (.inl (a + 1)), v0] (hp S D) Q := w_getR dX1_copyFrom_5 (t := 1) (j := 0) (c := 2) (by decide +kernel) (by decide) rfl (ln_ok (by decide) (by decide)) ha
theorem s16_8  : wp 16 8 [l0, l1] [.inr (.inl a1), .inr (.inl a0)] h Q ↔ wp 53 0 [.inr (.inl a0), .inr (.inl a1)] [] h (kont 16 11 [l0, l1] [] Q) := w_callS (y2 := 53) (kd := 0) (vs := [.inr (.inl a0), .inr (.inl a1)]) (st := []) dX1_copyFrom_8 (by decide +kernel) (by decide) rfl (by decide +kernel) (Nat.le_of_ble_eq_true rfl) (eSm_4 (by simp))
theorem s16_11 (h0 : a ≠ 0) : wp 16 11 [l0, .inr (.inl a)] [] h Q ↔ wp 16 12 [l0, .inr (.inl a)] [.inr (.inl a)] h Q := wp_step dX1_copyFrom_11 (fun _ => if_neg h0)
theorem s16_12 (ha : tg a = 1) : wp 16 12 [l0, l1] [.inr (.inl a)] (hp S D) Q ↔ wp 16 15 [l0, l1] [.inr (.inl (a + 2))] (hp S D) Q := w_getR dX1_copyFrom_12 (t := 1) (j := 1) (c := 2) (by decide +kernel) (by decide) rfl (ln_ok (by decide) (by decide)) ha
theorem s16_15 (h0 : a ≠ 0) : wp 16 15 [.inr (.inl a), l1] [v0] h Q ↔ wp 16 16 [.inr (.inl a), l1] [.inr (.inl a), v0] h Q := wp_step dX1_copyFrom_15 (fun _ => if_neg h0)
theorem s16_16 (ha : tg a = 1) : wp 16 16 [l0, l1] [.inr (.inl a), v0] (hp S D) Q ↔ wp 16 19 [l0, l1] [.inr (.inl (a + 2)), v0] (hp S D) Q := w_getR dX1_copyFrom_16 (t := 1) (j := 1) (c := 2) (by decide +kernel) (by decide) rfl (ln_ok (by decide) (by decide)) ha
theorem s16_19  : wp 16 19 [l0, l1] [.inr (.inl a1), .inr (.inl a0)] h Q ↔ wp 53 0 [.inr (.inl a0), .inr (.inl a1)] [] h (kont 16 22 [l0, l1] [] Q) := w_callS (y2 := 53) (kd := 0) (vs := [.inr (.inl a0), .inr (.inl a1)]) (st := []) dX1_copyFrom_19 (by decide +kernel) (by decide) rfl (by decide +kernel) (Nat.le_of_ble_eq_true rfl) (eSm_4 (by simp))
theorem s16_22 (h0 : a ≠ 0) : wp 16 22 [l0, .inr (.inl a)] [] h Q ↔ wp 16 23 [l0, .inr (.inl a)] [.inr (.inl a)] h Q := wp_step dX1_copyFrom_22 (fun _ => if_neg h0)
theorem s16_23 (ha : tg a = 1) : wp 16 23 [l0, l1] [.inr (.inl a)] (hp S D) Q ↔ wp 16 26 [l0, l1] [.inr (.inl (a + 3))] (hp S D) Q := w_getR dX1_copyFrom_23 (t := 1) (j := 2) (c := 2) (by decide +kernel) (by decide) rfl (ln_ok (by decide) (by decide)) ha
theorem s16_26 (h0 : a ≠ 0) : wp 16 26 [.inr (.inl a), l1] [v0] h Q ↔ wp 16 27 [.inr (.inl a), l1] [.inr (.inl a), v0] h Q := wp_step dX1_copyFrom_26 (fun _ => if_neg h0)
theorem s16_27 (ha : tg a = 1) : wp 16 27 [l0, l1] [.inr (.inl a), v0] (hp S D) Q ↔ wp 16 30 [l0, l1] [.inr (.inl (a + 3)), v0] (hp S D) Q := w_getR dX1_copyFrom_27 (t := 1) (j := 2) (c := 2) (by decide +kernel) (by decide) rfl (ln_ok (by decide) (by decide)) ha
theorem s16_30  : wp 16 30 [l0, l1] [.inr (.inl a1), .inr (.inl a0)] h Q ↔ wp 53 0 [.inr (.inl a0), .inr (.inl a1)] [] h (kont 16 33 [l0, l1] [] Q) := w_callS (y2 := 53) (kd := 0) (vs := [.inr (.inl a0), .inr (.inl a1)]) (st := []) dX1_copyFrom_30 (by decide +kernel) (by decide) rfl (by decide +kernel) (Nat.le_of_ble_eq_true rfl) (eSm_4 (by simp))
theorem s16_33 (h0 : a ≠ 0) : wp 16 33 [.inr (.inl a), l1] [] h Q ↔ wp 16 34 [.inr (.inl a), l1] [.inr (.inl a)] h Q := wp_step dX1_copyFrom_33 (fun _ => if_neg h0)
theorem s16_34 (h0 : a ≠ 0) : wp 16 34 [l0, .inr (.inl a)] [v0] h Q ↔ wp 16 35 [l0, .inr (.inl a)] [.inr (.inl a), v0] h Q := wp_step dX1_copyFrom_34 (fun _ => if_neg h0)
theorem s16_35 (ha : tg a = 1) : wp 16 35 [l0, l1] [.inr (.inl a), v0] (hp S D) Q ↔ wp 16 38 [l0, l1] [.inl (D a 3), v0] (hp S D) Q := w_getI dX1_copyFrom_35 (t := 1) (j := 3) (c := 0) (by decide +kernel) (by decide) rfl (ln_ok (by decide) (by decide)) ha
theorem s16_38 (ha : tg a = 1) : wp 16 38 [l0, l1] [.inl z, .inr (.inl a)] (hp S D) Q ↔ wp 16 41 [l0, l1] [] (hp S (up D a 3 z)) Q := w_put dX1_copyFrom_38 (t := 1) (j := 3) (c := 0) (by decide +kernel) (by decide +kernel) (by decide) rfl (ln_ok (by decide) (by decide)) (Or.inl rfl) ha
theorem s16_41 (h0 : a ≠ 0) : wp 16 41 [.inr (.inl a), l1] [] h Q ↔ wp 16 42 [.inr (.inl a), l1] [.inr (.inl a)] h Q := wp_step dX1_copyFrom_41 (fun _ => if_neg h0)
theorem s16_42 (h0 : a ≠ 0) : wp 16 42 [l0, .inr (.inl a)] [v0] h Q ↔ wp 16 43 [l0, .inr (.inl a)] [.inr (.inl a), v0] h Q := wp_step dX1_copyFrom_42 (fun _ => if_neg h0)
theorem s16_43 (ha : tg a = 1) : wp 16 43 [l0, l1] [.inr (.inl a), v0] (hp S D) Q ↔ wp 16 46 [l0, l1] [.inl (D a 4), v0] (hp S D) Q := w_getI dX1_copyFrom_43 (t := 1) (j := 4) (c := 0) (by decide +kernel) (by decide) rfl (ln_ok (by decide) (by decide)) ha
theorem s16_46 (ha : tg a = 1) : wp 16 46 [l0, l1] [.inl z, .inr (.inl a)] (hp S D) Q ↔ wp 16 49 [l0, l1] [] (hp S (up D a 4 z)) Q := w_put dX1_copyFrom_46 (t := 1) (j := 4) (c := 0) (by decide +kernel) (by decide +kernel) (by decide) rfl (ln_ok (by decide) (by decide)) (Or.inl rfl) ha
theorem s16_49  : wp 16 49 [l0, l1] [] h Q ↔ Q none h := w_retv dX1_copyFrom_49 (by decide +kernel)
theorem s17_0 (h0 : a ≠ 0) : wp 17 0 [.inr (.inl a), l1, l2, l3] [] h Q ↔ wp 17 1 [.inr (.inl a), l1, l2, l3] [.inr (.inl a)] h Q := wp_step dX1_note_0 (fun _ => if_neg h0)
theorem s17_1 (ha : tg a = 1) : wp 17 1 [l0, l1, l2, l3] [.inr (.inl a)] (hp S D) Q ↔ wp 17 4 [l0, l1, l2, l3] [.inr (.inl (a + 1))] (hp S D) Q := w_getR dX1_note_1 (t := 1) (j := 0) (c := 2) (by decide +kernel) (by decide) rfl (ln_ok (by decide) (by decide)) ha
theorem s17_4 (h0 : a ≠ 0) : wp 17 4 [.inr (.inl a), l1, l2, l3] [v0] h Q ↔ wp 17 5 [.inr (.inl a), l1, l2, l3] [.inr (.inl a), v0] h Q := wp_step dX1_note_4 (fun _ => if_neg h0)
theorem s17_5 (ha : tg a = 1) : wp 17 5 [l0, l1, l2, l3] [.inr (.inl a), v0] (hp S D) Q ↔ wp 17 8 [l0, l1, l2, l3] [.inl (D a 4), v0] (hp S D) Q := w_getI dX1_note_5 (t := 1) (j := 4) (c := 0) (by decide +kernel) (by decide) rfl (ln_ok (by decide) (by decide)) ha
theorem s17_8  : wp 17 8 [l0, .inl x, l2, l3] [v0, v1] h Q ↔ wp 17 9 [l0, .inl x, l2, l3] [.inl x, v0, v1] h Q := wp_step dX1_note_8 (fun _ => rfl)
theorem s17_9  : wp 17 9 [l0, l1, l2, l3] [.inl x2, .inl x1, .inr (.inl a0)] h Q ↔ wp 52 0 [.inr (.inl a0), .inl x1, .inl x2] [] h (kont 17 12 [l0, l1, l2, l3] [] Q) := w_callS (y2 := 52) (kd := 0) (vs := [.inr (.inl a0), .inl x1, .inl x2]) (st := []) dX1_note_9 (by decide +kernel) (by decide) rfl (by decide +kernel) (Nat.le_of_ble_eq_true rfl) (eSm_4 (by simp))
theorem s17_12 (h0 : a ≠ 0) : wp 17 12 [.inr (.inl a), l1, l2, l3] [] h Q ↔ wp 17 13 [.inr (.inl a), l1, l2, l3] [.inr (.inl a)] h Q := wp_step dX1_note_12 (fun _ => if_neg h0)
theorem s17_13 (ha : tg a = 1) : wp 17 13 [l0, l1, l2, l3] [.inr (.inl a)] (hp S D) Q ↔ wp 17 16 [l0, l1, l2, l3] [.inr (.inl (a + 2))] (hp S D) Q := w_getR dX1_note_13 (t := 1) (j := 1) (c := 2) (by decide +kernel) (by decide) rfl (ln_ok (by decide) (by decide)) ha
theorem s17_16 (h0 : a ≠ 0) : wp 17 16 [.inr (.inl a), l1, l2, l3] [v0] h Q ↔ wp 17 17 [.inr (.inl a), l1, l2, l3] [.inr (.inl a), v0] h Q := wp_step dX1_note_16 (fun _ => if_neg h0)
theorem s17_17 (ha : tg a = 1) : wp 17 17 [l0, l1, l2, l3] [.inr (.inl a), v0] (hp S D) Q ↔ wp 17 20 [l0, l1, l2, l3] [.inl (D a 4), v0] (hp S D) Q := w_getI dX1_note_17 (t := 1) (j := 4) (c := 0) (by decide +kernel) (by decide) rfl (ln_ok (by decide) (by decide)) ha
theorem s17_20  : wp 17 20 [l0, l1, .inl x, l3] [v0, v1] h Q ↔ wp 17 21 [l0, l1, .inl x, l3] [.inl x, v0, v1] h Q := wp_step dX1_note_20 (fun _ => rfl)
theorem s17_21  : wp 17 21 [l0, l1, l2, l3] [.inl x2, .inl x1, .inr (.inl a0)] h Q ↔ wp 52 0 [.inr (.inl a0), .inl x1, .inl x2] [] h (kont 17 24 [l0, l1, l2, l3] [] Q) := w_callS (y2 := 52) (kd := 0) (vs := [.inr (.inl a0), .inl x1, .inl x2]) (st := []) dX1_note_21 (by decide +kernel) (by decide) rfl (by decide +kernel) (Nat.le_of_ble_eq_true rfl) (eSm_4 (by simp))
theorem s17_24 (h0 : a ≠ 0) : wp 17 24 [.inr (.inl a), l1, l2, l3] [] h Q ↔ wp 17 25 [.inr (.inl a), l1, l2, l3] [.inr (.inl a)] h Q := wp_step dX1_note_24 (fun _ => if_neg h0)
theorem s17_25 (ha : tg a = 1) : wp 17 25 [l0, l1, l2, l3] [.inr (.inl a)] (hp S D) Q ↔ wp 17 28 [l0, l1, l2, l3] [.inr (.inl (a + 3))] (hp S D) Q := w_getR dX1_note_25 (t := 1) (j := 2) (c := 2) (by decide +kernel) (by decide) rfl (ln_ok (by decide) (by decide)) ha
theorem s17_28 (h0 : a ≠ 0) : wp 17 28 [.inr (.inl a), l1, l2, l3] [v0] h Q ↔ wp 17 29 [.inr (.inl a), l1, l2, l3] [.inr (.inl a), v0] h Q := wp_step dX1_note_28 (fun _ => if_neg h0)
theorem s17_29 (ha : tg a = 1) : wp 17 29 [l0, l1, l2, l3] [.inr (.inl a), v0] (hp S D) Q ↔ wp 17 32 [l0, l1, l2, l3] [.inl (D a 4), v0] (hp S D) Q := w_getI dX1_note_29 (t := 1) (j := 4) (c := 0) (by decide +kernel) (by decide) rfl (ln_ok (by decide) (by decide)) ha
theorem s17_32  : wp 17 32 [l0, l1, l2, .inl x] [v0, v1] h Q ↔ wp 17 33 [l0, l1, l2, .inl x] [.inl x, v0, v1] h Q := wp_step dX1_note_32 (fun _ => rfl)
theorem s17_33  : wp 17 33 [l0, l1, l2, l3] [.inl x2, .inl x1, .inr (.inl a0)] h Q ↔ wp 52 0 [.inr (.inl a0), .inl x1, .inl x2] [] h (kont 17 36 [l0, l1, l2, l3] [] Q) := w_callS (y2 := 52) (kd := 0) (vs := [.inr (.inl a0), .inl x1, .inl x2]) (st := []) dX1_note_33 (by decide +kernel) (by decide) rfl (by decide +kernel) (Nat.le_of_ble_eq_true rfl) (eSm_4 (by simp))
theorem s17_36 (h0 : a ≠ 0) : wp 17 36 [.inr (.inl a), l1, l2, l3] [] h Q ↔ wp 17 37 [.inr (.inl a), l1, l2, l3] [.inr (.inl a)] h Q := wp_step dX1_note_36 (fun _ => if_neg h0)
theorem s17_37 (h0 : a ≠ 0) : wp 17 37 [.inr (.inl a), l1, l2, l3] [v0] h Q ↔ wp 17 38 [.inr (.inl a), l1, l2, l3] [.inr (.inl a), v0] h Q := wp_step dX1_note_37 (fun _ => if_neg h0)
theorem s17_38 (ha : tg a = 1) : wp 17 38 [l0, l1, l2, l3] [.inr (.inl a), v0] (hp S D) Q ↔ wp 17 41 [l0, l1, l2, l3] [.inl (D a 4), v0] (hp S D) Q := w_getI dX1_note_38 (t := 1) (j := 4) (c := 0) (by decide +kernel) (by decide) rfl (ln_ok (by decide) (by decide)) ha
theorem s17_41  : wp 17 41 [l0, l1, l2, l3] [v0, v1] h Q ↔ wp 17 42 [l0, l1, l2, l3] [.inl 1, v0, v1] h Q := w_const1 dX1_note_41 k_1
theorem s17_42  : wp 17 42 [l0, l1, l2, l3] [.inl z, .inl x, v0] h Q ↔ wp 17 43 [l0, l1, l2, l3] [.inl (w32 (x + z)), v0] h Q := wp_step dX1_note_42 (fun _ => rfl)
theorem s17_43  : wp 17 43 [l0, l1, l2, l3] [v0, v1] h Q ↔ wp 17 45 [l0, l1, l2, l3] [.inl 10, v0, v1] h Q := w_const2 dX1_note_43 k_10 k8_10
theorem s17_45 (h0 : z ≠ 0) : wp 17 45 [l0, l1, l2, l3] [.inl z, .inl x, v0] h Q ↔ wp 17 46 [l0, l1, l2, l3] [.inl (w32 (x.tmod z)), v0] h Q := w_rem dX1_note_45 h0
theorem s17_46 (ha : tg a = 1) : wp 17 46 [l0, l1, l2, l3] [.inl z, .inr (.inl a)] (hp S D) Q ↔ wp 17 49 [l0, l1, l2, l3] [] (hp S (up D a 4 z)) Q := w_put dX1_note_46 (t := 1) (j := 4) (c := 0) (by decide +kernel) (by decide +kernel) (by decide) rfl (ln_ok (by decide) (by decide)) (Or.inl rfl) ha
theorem s17_49 (h0 : a ≠ 0) : wp 17 49 [.inr (.inl a), l1, l2, l3] [] h Q ↔ wp 17 50 [.inr (.inl a), l1, l2, l3] [.inr (.inl a)] h Q := wp_step dX1_note_49 (fun _ => if_neg h0)
theorem s17_50 (h0 : a ≠ 0) : wp 17 50 [.inr (.inl a), l1, l2, l3] [v0] h Q ↔ wp 17 51 [.inr (.inl a), l1, l2, l3] [.inr (.inl a), v0] h Q := wp_step dX1_note_50 (fun _ => if_neg h0)
theorem s17_51 (ha : tg a = 1) : wp 17 51 [l0, l1, l2, l3] [.inr (.inl a), v0] (hp S D) Q ↔ wp 17 54 [l0, l1, l2, l3] [.inl (D a 3), v0] (hp S D) Q := w_getI dX1_note_51 (t := 1) (j := 3) (c := 0) (by decide +kernel) (by decide) rfl (ln_ok (by decide) (by decide)) ha
theorem s17_54  : wp 17 54 [l0, l1, l2, l3] [v0, v1] h Q ↔ wp 17 55 [l0, l1, l2, l3] [.inl 1, v0, v1] h Q := w_const1 dX1_note_54 k_1
theorem s17_55  : wp 17 55 [l0, l1, l2, l3] [.inl z, .inl x, v0] h Q ↔ wp 17 56 [l0, l1, l2, l3] [.inl (w32 (x + z)), v0] h Q := wp_step dX1_note_55 (fun _ => rfl)
theorem s17_56  : wp 17 56 [l0, l1, l2, l3] [v0, v1] h Q ↔ wp 17 58 [l0, l1, l2, l3] [.inl 10, v0, v1] h Q := w_const2 dX1_note_56 k_10 k8_10
theorem s17_58  : wp 17 58 [l0, l1, l2, l3] [.inl x1, .inl x0, v0] h Q ↔ wp 100 0 [.inl x0, .inl x1] [] h (kont 17 61 [l0, l1, l2, l3] [v0] Q) := w_callS (y2 := 100) (kd := 0) (vs := [.inl x0, .inl x1]) (st := [v0]) dX1_note_58 (by decide +kernel) (by decide) rfl (by decide +kernel) (Nat.le_of_ble_eq_true rfl) (eSm_4 (by simp))
theorem s17_61 (ha : tg a = 1) : wp 17 61 [l0, l1, l2, l3] [.inl z, .inr (.inl a)] (hp S D) Q ↔ wp 17 64 [l0, l1, l2, l3] [] (hp S (up D a 3 z)) Q := w_put dX1_note_61 (t := 1) (j := 3) (c := 0) (by decide +kernel) (by decide +kernel) (by decide) rfl (ln_ok (by decide) (by decide)) (Or.inl rfl) ha
theorem s17_64  : wp 17 64 [l0, l1, l2, l3] [] h Q ↔ Q none h := w_retv dX1_note_64 (by decide +kernel)
theorem s18_0  : wp 18 0 [l0, .inl x] [] h Q ↔ wp 18 1 [l0, .inl x] [.inl x] h Q := wp_step dX1_rowBack_0 (fun _ => rfl)
theorem s18_1  : wp 18 1 [l0, l1] [.inl x] h Q ↔ if x < 0 then wp 18 12 [l0, l1] [] h Q else wp 18 4 [l0, l1] [] h Q := w_lt0 dX1_rowBack_1 (by decide)
theorem s18_4  : wp 18 4 [l0, .inl x] [] h Q ↔ wp 18 5 [l0, .inl x] [.inl x] h Q := wp_step dX1_rowBack_4 (fun _ => rfl)
theorem s18_5 (h0 : a ≠ 0) : wp 18 5 [.inr (.inl a), l1] [v0] h Q ↔ wp 18 6 [.inr (.inl a), l1] [.inr (.inl a), v0] h Q := wp_step dX1_rowBack_5 (fun _ => if_neg h0)
theorem s18_6 (ha : tg a = 1) : wp 18 6 [l0, l1] [.inr (.inl a), v0] (hp S D) Q ↔ wp 18 9 [l0, l1] [.inl (D a 3), v0] (hp S D) Q := w_getI dX1_rowBack_6 (t := 1) (j := 3) (c := 0) (by decide +kernel) (by decide) rfl (ln_ok (by decide) (by decide)) ha
theorem s18_9  : wp 18 9 [l0, l1] [.inl z, .inl x] h Q ↔ if x < z then wp 18 15 [l0, l1] [] h Q else wp 18 12 [l0, l1] [] h Q := w_clt dX1_rowBack_9 (by decide)
theorem s18_12  : wp 18 12 [l0, l1] [] h Q ↔ wp 18 14 [l0, l1] [.inl (-5)] h Q := w_const2 dX1_rowBack_12 k_m5 k8_m5
theorem s18_14  : wp 18 14 [l0, l1] [.inl x] h Q ↔ Q (some (.inl x)) h := w_reti dX1_rowBack_14 (e_ri (by decide +kernel))
theorem s18_15 (h0 : a ≠ 0) : wp 18 15 [.inr (.inl a), l1] [] h Q ↔ wp 18 16 [.inr (.inl a), l1] [.inr (.inl a)] h Q := wp_step dX1_rowBack_15 (fun _ => if_neg h0)
theorem s18_16 (ha : tg a = 1) : wp 18 16 [l0, l1] [.inr (.inl a)] (hp S D) Q ↔ wp 18 19 [l0, l1] [.inl (D a 4)] (hp S D) Q := w_getI dX1_rowBack_16 (t := 1) (j := 4) (c := 0) (by decide +kernel) (by decide) rfl (ln_ok (by decide) (by decide)) ha
theorem s18_19  : wp 18 19 [l0, l1] [v0] h Q ↔ wp 18 20 [l0, l1] [.inl 1, v0] h Q := w_const1 dX1_rowBack_19 k_1
theorem s18_20  : wp 18 20 [l0, l1] [.inl z, .inl x] h Q ↔ wp 18 21 [l0, l1] [.inl (w32 (x - z))] h Q := wp_step dX1_rowBack_20 (fun _ => rfl)
theorem s18_21  : wp 18 21 [l0, .inl x] [v0] h Q ↔ wp 18 22 [l0, .inl x] [.inl x, v0] h Q := wp_step dX1_rowBack_21 (fun _ => rfl)
theorem s18_22  : wp 18 22 [l0, l1] [.inl z, .inl x] h Q ↔ wp 18 23 [l0, l1] [.inl (w32 (x - z))] h Q := wp_step dX1_rowBack_22 (fun _ => rfl)
theorem s18_23  : wp 18 23 [l0, l1] [v0] h Q ↔ wp 18 25 [l0, l1] [.inl 10, v0] h Q := w_const2 dX1_rowBack_23 k_10 k8_10
theorem s18_25  : wp 18 25 [l0, l1] [.inl x1, .inl x0] h Q ↔ wp 98 0 [.inl x0, .inl x1, .inr (.inl 0)] [] h (kont 18 28 [l0, l1] [] Q) := w_callS (y2 := 98) (kd := 0) (vs := [.inl x0, .inl x1]) (st := []) dX1_rowBack_25 (by decide +kernel) (by decide) rfl (by decide +kernel) (Nat.le_of_ble_eq_true rfl) (eSm_4 (by simp))
theorem s18_28  : wp 18 28 [l0, l1] [.inl x] h Q ↔ Q (some (.inl x)) h := w_reti dX1_rowBack_28 (e_ri (by decide +kernel))
theorem s19_0 (h0 : a ≠ 0) : wp 19 0 [.inr (.inl a), l1] [] h Q ↔ wp 19 1 [.inr (.inl a), l1] [.inr (.inl a)] h Q := wp_step dX2_init_0 (fun _ => if_neg h0)
theorem s19_1 (h8 : 8 ≤ a) : wp 19 1 [l0, l1] [.inr (.inl a)] h Q ↔ wp 19 4 [l0, l1] [] h Q := w_callO dX2_init_1 (y2 := 0) (by decide +kernel) ⟨eSm_4 (by simp), by decide +kernel, by decide +kernel⟩ h8
theorem s19_4 (h0 : a ≠ 0) : wp 19 4 [.inr (.inl a), l1] [] h Q ↔ wp 19 5 [.inr (.inl a), l1] [.inr (.inl a)] h Q := wp_step dX2_init_4 (fun _ => if_neg h0)
theorem s19_5  : wp 19 5 [l0, l1] [v0] h Q ↔ wp 19 6 [l0, l1] [.inl 4, v0] h Q := w_const1 dX2_init_5 k_4
theorem s19_12  : wp 19 12 [l0, l1] [] h Q ↔ wp 19 13 [l0, l1] [.inl 0] h Q := w_const1 dX2_init_12 k_0
theorem s19_13  : wp 19 13 [l0, l1] [.inl x] h Q ↔ wp 19 14 [l0, .inl x] [] h Q := wp_step dX2_init_13 (fun _ => rfl)
theorem s19_14  : wp 19 14 [l0, .inl x] [] h Q ↔ wp 19 15 [l0, .inl x] [.inl x] h Q := wp_step dX2_init_14 (fun _ => rfl)
theorem s19_15 (h0 : a ≠ 0) : wp 19 15 [.inr (.inl a), l1] [v0] h Q ↔ wp 19 16 [.inr (.inl a), l1] [.inr (.inl a), v0] h Q := wp_step dX2_init_15 (fun _ => if_neg h0)
theorem s19_20  : wp 19 20 [l0, l1] [.inl z, .inl x] h Q ↔ if x < z then wp 19 23 [l0, l1] [] h Q else wp 19 42 [l0, l1] [] h Q := w_cge dX2_init_20 (by decide)
theorem s19_23 (h0 : a ≠ 0) : wp 19 23 [.inr (.inl a), l1] [] h Q ↔ wp 19 24 [.inr (.inl a), l1] [.inr (.inl a)] h Q := wp_step dX2_init_23 (fun _ => if_neg h0)
theorem s19_27  : wp 19 27 [l0, .inl x] [v0] h Q ↔ wp 19 28 [l0, .inl x] [.inl x, v0] h Q := wp_step dX2_init_27 (fun _ => rfl)
theorem s19_31  : wp 19 31 [l0, l1] [.inr (.inl a0), v0, v1] h Q ↔ wp 19 32 [l0, l1] [.inr (.inl a0), .inr (.inl a0), v0, v1] h Q := wp_step dX2_init_31 (fun _ => rfl)
theorem s19_32 (h8 : 8 ≤ a) : wp 19 32 [l0, l1] [.inr (.inl a), v0, v1, v2] h Q ↔ wp 0 0 [.inr (.inl a), .inr (.inl 0)] [] h (kont 19 35 [l0, l1] [v0, v1, v2] Q) := w_callI (y2 := 0) (vs := []) (st := [v0, v1, v2]) dX2_init_32 (by decide +kernel) rfl (by decide +kernel) (Nat.le_of_ble_eq_true rfl) (eSm_4 (by simp)) h8
theorem s19_36  : wp 19 36 [l0, .inl x] [] h Q ↔ wp 19 39 [l0, .inl (w32 (x + 1))] [] h Q := wp_step dX2_init_36 (fun _ => rfl)
theorem s19_39  : wp 19 39 [l0, l1] [] h Q ↔ wp 19 14 [l0, l1] [] h Q := w_goto dX2_init_39 (by decide)
theorem s19_42  : wp 19 42 [l0, l1] [] h Q ↔ Q none h := w_retv dX2_init_42 (by decide +kernel)
theorem s20_0 (h0 : a ≠ 0) : wp 20 0 [.inr (.inl a), l1, l2] [] h Q ↔ wp 20 1 [.inr (.inl a), l1, l2] [.inr (.inl a)] h Q := wp_step dX2_record_0 (fun _ => if_neg h0)
theorem s20_1 (ha : tg a = 2) : wp 20 1 [l0, l1, l2] [.inr (.inl a)] (hp S D) Q ↔ wp 20 4 [l0, l1, l2] [.inl (D a 1)] (hp S D) Q := w_getI dX2_record_1 (t := 2) (j := 1) (c := 0) (by decide +kernel) (by decide) rfl (ln_ok (by decide) (by decide)) ha
theorem s20_4  : wp 20 4 [l0, l1, l2] [v0] h Q ↔ wp 20 5 [l0, l1, l2] [.inl 4, v0] h Q := w_const1 dX2_record_4 k_4
theorem s20_5  : wp 20 5 [l0, l1, l2] [.inl z, .inl x] h Q ↔ if x = z then wp 20 8 [l0, l1, l2] [] h Q else wp 20 30 [l0, l1, l2] [] h Q := w_cne dX2_record_5 (by decide)
theorem s20_8 (h0 : a ≠ 0) : wp 20 8 [.inr (.inl a), l1, l2] [] h Q ↔ wp 20 9 [.inr (.inl a), l1, l2] [.inr (.inl a)] h Q := wp_step dX2_record_8 (fun _ => if_neg h0)
theorem s20_9 (h0 : a ≠ 0) : wp 20 9 [.inr (.inl a), l1, l2] [v0] h Q ↔ wp 20 10 [.inr (.inl a), l1, l2] [.inr (.inl a), v0] h Q := wp_step dX2_record_9 (fun _ => if_neg h0)
theorem s20_10 (ha : tg a = 2) : wp 20 10 [l0, l1, l2] [.inr (.inl a), v0] (hp S D) Q ↔ wp 20 13 [l0, l1, l2] [.inl (D a 2), v0] (hp S D) Q := w_getI dX2_record_10 (t := 2) (j := 2) (c := 0) (by decide +kernel) (by decide) rfl (ln_ok (by decide) (by decide)) ha
theorem s20_13  : wp 20 13 [l0, l1, l2] [v0, v1] h Q ↔ wp 20 14 [l0, l1, l2] [.inl 1, v0, v1] h Q := w_const1 dX2_record_13 k_1
theorem s20_14  : wp 20 14 [l0, l1, l2] [.inl z, .inl x, v0] h Q ↔ wp 20 15 [l0, l1, l2] [.inl (w32 (x + z)), v0] h Q := wp_step dX2_record_14 (fun _ => rfl)
theorem s20_15  : wp 20 15 [l0, l1, l2] [v0, v1] h Q ↔ wp 20 16 [l0, l1, l2] [.inl 4, v0, v1] h Q := w_const1 dX2_record_15 k_4
theorem s20_16 (h0 : z ≠ 0) : wp 20 16 [l0, l1, l2] [.inl z, .inl x, v0] h Q ↔ wp 20 17 [l0, l1, l2] [.inl (w32 (x.tmod z)), v0] h Q := w_rem dX2_record_16 h0
theorem s20_17 (ha : tg a = 2) : wp 20 17 [l0, l1, l2] [.inl z, .inr (.inl a)] (hp S D) Q ↔ wp 20 20 [l0, l1, l2] [] (hp S (up D a 2 z)) Q := w_put dX2_record_17 (t := 2) (j := 2) (c := 0) (by decide +kernel) (by decide +kernel) (by decide) rfl (ln_ok (by decide) (by decide)) (Or.inl rfl) ha
theorem s20_20 (h0 : a ≠ 0) : wp 20 20 [.inr (.inl a), l1, l2] [] h Q ↔ wp 20 21 [.inr (.inl a), l1, l2] [.inr (.inl a)] h Q := wp_step dX2_record_20 (fun _ => if_neg h0)
theorem s20_21  : wp 20 21 [l0, l1, l2] [.inr (.inl a0)] h Q ↔ wp 20 22 [l0, l1, l2] [.inr (.inl a0), .inr (.inl a0)] h Q := wp_step dX2_record_21 (fun _ => rfl)
theorem s20_22 (ha : tg a = 2) : wp 20 22 [l0, l1, l2] [.inr (.inl a), v0] (hp S D) Q ↔ wp 20 25 [l0, l1, l2] [.inl (D a 1), v0] (hp S D) Q := w_getI dX2_record_22 (t := 2) (j := 1) (c := 0) (by decide +kernel) (by decide) rfl (ln_ok (by decide) (by decide)) ha
theorem s20_25  : wp 20 25 [l0, l1, l2] [v0, v1] h Q ↔ wp 20 26 [l0, l1, l2] [.inl 1, v0, v1] h Q := w_const1 dX2_record_25 k_1
theorem s20_26  : wp 20 26 [l0, l1, l2] [.inl z, .inl x, v0] h Q ↔ wp 20 27 [l0, l1, l2] [.inl (w32 (x - z)), v0] h Q := wp_step dX2_record_26 (fun _ => rfl)
theorem s20_27 (ha : tg a = 2) : wp 20 27 [l0, l1, l2] [.inl z, .inr (.inl a)] (hp S D) Q ↔ wp 20 30 [l0, l1, l2] [] (hp S (up D a 1 z)) Q := w_put dX2_record_27 (t := 2) (j := 1) (c := 0) (by decide +kernel) (by decide +kernel) (by decide) rfl (ln_ok (by decide) (by decide)) (Or.inl rfl) ha
theorem s20_30 (h0 : a ≠ 0) : wp 20 30 [.inr (.inl a), l1, l2] [] h Q ↔ wp 20 31 [.inr (.inl a), l1, l2] [.inr (.inl a)] h Q := wp_step dX2_record_30 (fun _ => if_neg h0)
theorem s20_31 (ha : tg a = 2) : wp 20 31 [l0, l1, l2] [.inr (.inl a)] (hp S D) Q ↔ wp 22 0 [.inr (.inl a), .inr (.inl 0)] [] (hp S D) (kont 20 34 [l0, l1, l2] [] Q) := w_callV (y2 := 22) (vs := []) (st := []) dX2_record_31 (by decide +kernel) rfl (by decide +kernel) (Nat.le_of_ble_eq_true rfl) (eSm_4 (by simp)) 2 rfl (by decide) ha
theorem s20_34 (h0 : a ≠ 0) : wp 20 34 [l0, l1, l2] [.inr (.inl a)] h Q ↔ wp 20 35 [l0, l1, .inr (.inl a)] [] h Q := wp_step dX2_record_34 (fun _ => (if_neg h0).trans rfl)
theorem s20_35 (h0 : a ≠ 0) : wp 20 35 [l0, l1, .inr (.inl a)] [] h Q ↔ wp 20 36 [l0, l1, .inr (.inl a)] [.inr (.inl a)] h Q := wp_step dX2_record_35 (fun _ => if_neg h0)
theorem s20_36 (h0 : a ≠ 0) : wp 20 36 [l0, l1, l2] [.inr (.inl a)] h Q ↔ wp 20 39 [l0, l1, l2] [] h Q := w_null dX2_record_36 h0
theorem s20_39 (h0 : a ≠ 0) : wp 20 39 [l0, l1, .inr (.inl a)] [] h Q ↔ wp 20 40 [l0, l1, .inr (.inl a)] [.inr (.inl a)] h Q := wp_step dX2_record_39 (fun _ => if_neg h0)
theorem s20_40 (h0 : a ≠ 0) : wp 20 40 [l0, .inr (.inl a), l2] [v0] h Q ↔ wp 20 41 [l0, .inr (.inl a), l2] [.inr (.inl a), v0] h Q := wp_step dX2_record_40 (fun _ => if_neg h0)
theorem s20_41 (ha : tg a = 0) : wp 20 41 [l0, l1, l2] [.inr (.inl a0), .inr (.inl a)] (hp S D) Q ↔ wp 1 0 [.inr (.inl a), .inr (.inl a0)] [] (hp S D) (kont 20 44 [l0, l1, l2] [] Q) := w_callV (y2 := 1) (vs := [.inr (.inl a0)]) (st := []) dX2_record_41 (by decide +kernel) rfl (by decide +kernel) (Nat.le_of_ble_eq_true rfl) (eSm_4 (by simp)) 0 rfl (by decide) ha
theorem s20_44 (h0 : a ≠ 0) : wp 20 44 [.inr (.inl a), l1, l2] [] h Q ↔ wp 20 45 [.inr (.inl a), l1, l2] [.inr (.inl a)] h Q := wp_step dX2_record_44 (fun _ => if_neg h0)
theorem s20_45  : wp 20 45 [l0, l1, l2] [.inr (.inl a0)] h Q ↔ wp 20 46 [l0, l1, l2] [.inr (.inl a0), .inr (.inl a0)] h Q := wp_step dX2_record_45 (fun _ => rfl)
theorem s20_46 (ha : tg a = 2) : wp 20 46 [l0, l1, l2] [.inr (.inl a), v0] (hp S D) Q ↔ wp 20 49 [l0, l1, l2] [.inl (D a 1), v0] (hp S D) Q := w_getI dX2_record_46 (t := 2) (j := 1) (c := 0) (by decide +kernel) (by decide) rfl (ln_ok (by decide) (by decide)) ha
theorem s20_49  : wp 20 49 [l0, l1, l2] [v0, v1] h Q ↔ wp 20 50 [l0, l1, l2] [.inl 1, v0, v1] h Q := w_const1 dX2_record_49 k_1
theorem s20_50  : wp 20 50 [l0, l1, l2] [.inl z, .inl x, v0] h Q ↔ wp 20 51 [l0, l1, l2] [.inl (w32 (x + z)), v0] h Q := wp_step dX2_record_50 (fun _ => rfl)
theorem s20_51 (ha : tg a = 2) : wp 20 51 [l0, l1, l2] [.inl z, .inr (.inl a)] (hp S D) Q ↔ wp 20 54 [l0, l1, l2] [] (hp S (up D a 1 z)) Q := w_put dX2_record_51 (t := 2) (j := 1) (c := 0) (by decide +kernel) (by decide +kernel) (by decide) rfl (ln_ok (by decide) (by decide)) (Or.inl rfl) ha
theorem s20_54  : wp 20 54 [l0, l1, l2] [] h Q ↔ Q none h := w_retv dX2_record_54 (by decide +kernel)
theorem s21_0 (h0 : a ≠ 0) : wp 21 0 [.inr (.inl a), l1, l2] [] h Q ↔ wp 21 1 [.inr (.inl a), l1, l2] [.inr (.inl a)] h Q := wp_step dX2_takeBackInto_0 (fun _ => if_neg h0)
theorem s21_1  : wp 21 1 [l0, l1, l2] [.inr (.inl a0)] h Q ↔ wp 21 2 [l0, l1, l2] [.inr (.inl a0), .inr (.inl a0)] h Q := wp_step dX2_takeBackInto_1 (fun _ => rfl)
theorem s21_2 (ha : tg a = 2) : wp 21 2 [l0, l1, l2] [.inr (.inl a), v0] (hp S D) Q ↔ wp 21 5 [l0, l1, l2] [.inl (D a 1), v0] (hp S D) Q := w_getI dX2_takeBackInto_2 (t := 2) (j := 1) (c := 0) (by decide +kernel) (by decide) rfl (ln_ok (by decide) (by decide)) ha
theorem s21_5  : wp 21 5 [l0, l1, l2] [v0, v1] h Q ↔ wp 21 6 [l0, l1, l2] [.inl 1, v0, v1] h Q := w_const1 dX2_takeBackInto_5 k_1
theorem s21_6  : wp 21 6 [l0, l1, l2] [.inl z, .inl x, v0] h Q ↔ wp 21 7 [l0, l1, l2] [.inl (w32 (x - z)), v0] h Q := wp_step dX2_takeBackInto_6 (fun _ => rfl)
theorem s21_7 (ha : tg a = 2) : wp 21 7 [l0, l1, l2] [.inl z, .inr (.inl a)] (hp S D) Q ↔ wp 21 10 [l0, l1, l2] [] (hp S (up D a 1 z)) Q := w_put dX2_takeBackInto_7 (t := 2) (j := 1) (c := 0) (by decide +kernel) (by decide +kernel) (by decide) rfl (ln_ok (by decide) (by decide)) (Or.inl rfl) ha
theorem s21_10 (h0 : a ≠ 0) : wp 21 10 [.inr (.inl a), l1, l2] [] h Q ↔ wp 21 11 [.inr (.inl a), l1, l2] [.inr (.inl a)] h Q := wp_step dX2_takeBackInto_10 (fun _ => if_neg h0)
theorem s21_11 (ha : tg a = 2) : wp 21 11 [l0, l1, l2] [.inr (.inl a)] (hp S D) Q ↔ wp 22 0 [.inr (.inl a), .inr (.inl 0)] [] (hp S D) (kont 21 14 [l0, l1, l2] [] Q) := w_callV (y2 := 22) (vs := []) (st := []) dX2_takeBackInto_11 (by decide +kernel) rfl (by decide +kernel) (Nat.le_of_ble_eq_true rfl) (eSm_4 (by simp)) 2 rfl (by decide) ha
theorem s21_14 (h0 : a ≠ 0) : wp 21 14 [l0, l1, l2] [.inr (.inl a)] h Q ↔ wp 21 15 [l0, l1, .inr (.inl a)] [] h Q := wp_step dX2_takeBackInto_14 (fun _ => (if_neg h0).trans rfl)
theorem s21_15 (h0 : a ≠ 0) : wp 21 15 [l0, l1, .inr (.inl a)] [] h Q ↔ wp 21 16 [l0, l1, .inr (.inl a)] [.inr (.inl a)] h Q := wp_step dX2_takeBackInto_15 (fun _ => if_neg h0)
theorem s21_16 (h0 : a ≠ 0) : wp 21 16 [l0, l1, l2] [.inr (.inl a)] h Q ↔ wp 21 19 [l0, l1, l2] [] h Q := w_null dX2_takeBackInto_16 h0
theorem s21_19 (h0 : a ≠ 0) : wp 21 19 [l0, .inr (.inl a), l2] [] h Q ↔ wp 21 20 [l0, .inr (.inl a), l2] [.inr (.inl a)] h Q := wp_step dX2_takeBackInto_19 (fun _ => if_neg h0)
theorem s21_20 (h0 : a ≠ 0) : wp 21 20 [l0, l1, .inr (.inl a)] [v0] h Q ↔ wp 21 21 [l0, l1, .inr (.inl a)] [.inr (.inl a), v0] h Q := wp_step dX2_takeBackInto_20 (fun _ => if_neg h0)
theorem s21_21 (ha : tg a = 0) : wp 21 21 [l0, l1, l2] [.inr (.inl a0), .inr (.inl a)] (hp S D) Q ↔ wp 1 0 [.inr (.inl a), .inr (.inl a0)] [] (hp S D) (kont 21 24 [l0, l1, l2] [] Q) := w_callV (y2 := 1) (vs := [.inr (.inl a0)]) (st := []) dX2_takeBackInto_21 (by decide +kernel) rfl (by decide +kernel) (Nat.le_of_ble_eq_true rfl) (eSm_4 (by simp)) 0 rfl (by decide) ha
theorem s21_24  : wp 21 24 [l0, l1, l2] [] h Q ↔ Q none h := w_retv dX2_takeBackInto_24 (by decide +kernel)
theorem s22_0 (h0 : a ≠ 0) : wp 22 0 [.inr (.inl a), l1] [] h Q ↔ wp 22 1 [.inr (.inl a), l1] [.inr (.inl a)] h Q := wp_step dX2_behindLatest_0 (fun _ => if_neg h0)
theorem s22_1 (ha : tg a = 2) : wp 22 1 [l0, l1] [.inr (.inl a)] (hp S D) Q ↔ wp 22 4 [l0, l1] [.inl (D a 2)] (hp S D) Q := w_getI dX2_behindLatest_1 (t := 2) (j := 2) (c := 0) (by decide +kernel) (by decide) rfl (ln_ok (by decide) (by decide)) ha
theorem s22_4 (h0 : a ≠ 0) : wp 22 4 [.inr (.inl a), l1] [v0] h Q ↔ wp 22 5 [.inr (.inl a), l1] [.inr (.inl a), v0] h Q := wp_step dX2_behindLatest_4 (fun _ => if_neg h0)
theorem s22_5 (ha : tg a = 2) : wp 22 5 [l0, l1] [.inr (.inl a), v0] (hp S D) Q ↔ wp 22 8 [l0, l1] [.inl (D a 1), v0] (hp S D) Q := w_getI dX2_behindLatest_5 (t := 2) (j := 1) (c := 0) (by decide +kernel) (by decide) rfl (ln_ok (by decide) (by decide)) ha
theorem s22_8  : wp 22 8 [l0, l1] [.inl z, .inl x] h Q ↔ wp 22 9 [l0, l1] [.inl (w32 (x + z))] h Q := wp_step dX2_behindLatest_8 (fun _ => rfl)
theorem s22_9  : wp 22 9 [l0, l1] [v0] h Q ↔ wp 22 10 [l0, l1] [.inl 4, v0] h Q := w_const1 dX2_behindLatest_9 k_4
theorem s22_10  : wp 22 10 [l0, l1] [.inl x1, .inl x0] h Q ↔ wp 98 0 [.inl x0, .inl x1, .inr (.inl 0)] [] h (kont 22 13 [l0, l1] [] Q) := w_callS (y2 := 98) (kd := 0) (vs := [.inl x0, .inl x1]) (st := []) dX2_behindLatest_10 (by decide +kernel) (by decide) rfl (by decide +kernel) (Nat.le_of_ble_eq_true rfl) (eSm_4 (by simp))
theorem s22_13  : wp 22 13 [l0, l1] [.inl x] h Q ↔ wp 22 14 [l0, .inl x] [] h Q := wp_step dX2_behindLatest_13 (fun _ => rfl)
theorem s22_14  : wp 22 14 [l0, .inl x] [] h Q ↔ wp 22 15 [l0, .inl x] [.inl x] h Q := wp_step dX2_behindLatest_14 (fun _ => rfl)
theorem s22_15  : wp 22 15 [l0, l1] [.inl x] h Q ↔ if x < 0 then wp 22 36 [l0, l1] [] h Q else wp 22 18 [l0, l1] [] h Q := w_lt0 dX2_behindLatest_15 (by decide)
theorem s22_18  : wp 22 18 [l0, .inl x] [] h Q ↔ wp 22 19 [l0, .inl x] [.inl x] h Q := wp_step dX2_behindLatest_18 (fun _ => rfl)
theorem s22_19 (h0 : a ≠ 0) : wp 22 19 [.inr (.inl a), l1] [v0] h Q ↔ wp 22 20 [.inr (.inl a), l1] [.inr (.inl a), v0] h Q := wp_step dX2_behindLatest_19 (fun _ => if_neg h0)
theorem s22_20 (ha : tg a = 2) : wp 22 20 [l0, l1] [.inr (.inl a), v0] (hp S D) Q ↔ wp 22 23 [l0, l1] [.inr (.inl (a + 1)), v0] (hp S D) Q := w_getR dX2_behindLatest_20 (t := 2) (j := 0) (c := 2) (by decide +kernel) (by decide) rfl (ln_ok (by decide) (by decide)) ha
theorem s22_23 (ha : tg a = 103) (hS : S.length ≤ 2048) : wp 22 23 [l0, l1] [.inr (.inl a), v0] (hp S D) Q ↔ wp 22 24 [l0, l1] [.inl (ln S a), v0] (hp S D) Q := w_len dX2_behindLatest_23 (by simp [ha]) (ln_lt hS a)
theorem s22_24  : wp 22 24 [l0, l1] [.inl z, .inl x] h Q ↔ if x < z then wp 22 27 [l0, l1] [] h Q else wp 22 36 [l0, l1] [] h Q := w_cge dX2_behindLatest_24 (by decide)
theorem s22_27 (h0 : a ≠ 0) : wp 22 27 [.inr (.inl a), l1] [] h Q ↔ wp 22 28 [.inr (.inl a), l1] [.inr (.inl a)] h Q := wp_step dX2_behindLatest_27 (fun _ => if_neg h0)
theorem s22_28 (ha : tg a = 2) : wp 22 28 [l0, l1] [.inr (.inl a)] (hp S D) Q ↔ wp 22 31 [l0, l1] [.inr (.inl (a + 1))] (hp S D) Q := w_getR dX2_behindLatest_28 (t := 2) (j := 0) (c := 2) (by decide +kernel) (by decide) rfl (ln_ok (by decide) (by decide)) ha
theorem s22_31  : wp 22 31 [l0, .inl x] [v0] h Q ↔ wp 22 32 [l0, .inl x] [.inl x, v0] h Q := wp_step dX2_behindLatest_31 (fun _ => rfl)
theorem s22_32 (ha : tg a = 103) (h0 : 0 ≤ x) (h1 : x < ln S a) : wp 22 32 [l0, l1] [.inl x, .inr (.inl a)] (hp S D) Q ↔ wp 22 33 [l0, l1] [.inr (.inl (a + (1 + 20 * x.toNat)))] (hp S D) Q := by rw [w_aald (y := 22) dX2_behindLatest_32 (by simp [ha]) h0 h1]; simp [ha]
theorem s22_33  : wp 22 33 [l0, l1] [v0] h Q ↔ wp 22 37 [l0, l1] [v0] h Q := w_goto dX2_behindLatest_33 (by decide)
theorem s22_37 (h0 : a ≠ 0) : wp 22 37 [l0, l1] [.inr (.inl a)] h Q ↔ Q (some (.inr (.inl a))) h := w_reta dX2_behindLatest_37 (by decide +kernel) h0
theorem s23_0 (h0 : a ≠ 0) : wp 23 0 [.inr (.inl a)] [] h Q ↔ wp 23 1 [.inr (.inl a)] [.inr (.inl a)] h Q := wp_step dX3_init_0 (fun _ => if_neg h0)
theorem s23_1 (h8 : 8 ≤ a) : wp 23 1 [l0] [.inr (.inl a)] h Q ↔ wp 23 4 [l0] [] h Q := w_callO dX3_init_1 (y2 := 0) (by decide +kernel) ⟨eSm_4 (by simp), by decide +kernel, by decide +kernel⟩ h8
theorem s23_4 (h0 : a ≠ 0) : wp 23 4 [.inr (.inl a)] [] h Q ↔ wp 23 5 [.inr (.inl a)] [.inr (.inl a)] h Q := wp_step dX3_init_4 (fun _ => if_neg h0)
theorem s23_5  : wp 23 5 [l0] [v0] h Q ↔ wp 23 6 [l0] [.inl (-1), v0] h Q := w_const1 dX3_init_5 k_m1
theorem s23_9  : wp 23 9 [l0] [] h Q ↔ Q none h := w_retv dX3_init_9 (by decide +kernel)
theorem s24_0 (h0 : a ≠ 0) : wp 24 0 [.inr (.inl a), l1, l2] [] h Q ↔ wp 24 1 [.inr (.inl a), l1, l2] [.inr (.inl a)] h Q := wp_step dX3_makeNew_0 (fun _ => if_neg h0)
theorem s24_1  : wp 24 1 [l0, .inl x, l2] [v0] h Q ↔ wp 24 2 [l0, .inl x, l2] [.inl x, v0] h Q := wp_step dX3_makeNew_1 (fun _ => rfl)
theorem s24_2 (ha : tg a = 3) : wp 24 2 [l0, l1, l2] [.inl z, .inr (.inl a)] (hp S D) Q ↔ wp 24 5 [l0, l1, l2] [] (hp S (up D a 0 z)) Q := w_put dX3_makeNew_2 (t := 3) (j := 0) (c := 0) (by decide +kernel) (by decide +kernel) (by decide) rfl (ln_ok (by decide) (by decide)) (Or.inl rfl) ha
theorem s24_5 (h0 : a ≠ 0) : wp 24 5 [.inr (.inl a), l1, l2] [] h Q ↔ wp 24 6 [.inr (.inl a), l1, l2] [.inr (.inl a)] h Q := wp_step dX3_makeNew_5 (fun _ => if_neg h0)
theorem s24_6  : wp 24 6 [l0, l1, .inl x] [v0] h Q ↔ wp 24 7 [l0, l1, .inl x] [.inl x, v0] h Q := wp_step dX3_makeNew_6 (fun _ => rfl)
theorem s24_7 (ha : tg a = 3) : wp 24 7 [l0, l1, l2] [.inl z, .inr (.inl a)] (hp S D) Q ↔ wp 24 10 [l0, l1, l2] [] (hp S (up D a 1 z)) Q := w_put dX3_makeNew_7 (t := 3) (j := 1) (c := 0) (by decide +kernel) (by decide +kernel) (by decide) rfl (ln_ok (by decide) (by decide)) (Or.inl rfl) ha
theorem s24_10 (h0 : a ≠ 0) : wp 24 10 [.inr (.inl a), l1, l2] [] h Q ↔ wp 24 11 [.inr (.inl a), l1, l2] [.inr (.inl a)] h Q := wp_step dX3_makeNew_10 (fun _ => if_neg h0)
theorem s24_11  : wp 24 11 [l0, l1, l2] [v0] h Q ↔ wp 24 14 [l0, l1, l2] [.inr (.inl 2), v0] h Q := w_stat dX3_makeNew_11 (by decide +kernel)
theorem s24_14  : wp 24 14 [l0, .inl x, l2] [v0, v1] h Q ↔ wp 24 15 [l0, .inl x, l2] [.inl x, v0, v1] h Q := wp_step dX3_makeNew_14 (fun _ => rfl)
theorem s24_15  : wp 24 15 [l0, l1, l2] [.inl x1, .inr (.inl a0), v0] h Q ↔ wp 51 0 [.inr (.inl a0), .inl x1] [] h (kont 24 18 [l0, l1, l2] [v0] Q) := w_callS (y2 := 51) (kd := 0) (vs := [.inr (.inl a0), .inl x1]) (st := [v0]) dX3_makeNew_15 (by decide +kernel) (by decide) rfl (by decide +kernel) (Nat.le_of_ble_eq_true rfl) (eSm_4 (by simp))
theorem s24_18  : wp 24 18 [l0, l1, .inl x] [v0, v1] h Q ↔ wp 24 19 [l0, l1, .inl x] [.inl x, v0, v1] h Q := wp_step dX3_makeNew_18 (fun _ => rfl)
theorem s24_19  : wp 24 19 [l0, l1, l2] [.inl z, .inl x, v0] h Q ↔ wp 24 20 [l0, l1, l2] [.inl (w32 (x * z)), v0] h Q := wp_step dX3_makeNew_19 (fun _ => rfl)
theorem s24_20  : wp 24 20 [l0, l1, l2] [v0, v1] h Q ↔ wp 24 22 [l0, l1, l2] [.inl 100, v0, v1] h Q := w_const2 dX3_makeNew_20 k_100 k8_100
theorem s24_22 (h0 : z ≠ 0) : wp 24 22 [l0, l1, l2] [.inl z, .inl x, v0] h Q ↔ wp 24 23 [l0, l1, l2] [.inl (w32 (x.tdiv z)), v0] h Q := w_div dX3_makeNew_22 h0
theorem s24_23 (ha : tg a = 3) : wp 24 23 [l0, l1, l2] [.inl z, .inr (.inl a)] (hp S D) Q ↔ wp 24 26 [l0, l1, l2] [] (hp S (up D a 2 z)) Q := w_put dX3_makeNew_23 (t := 3) (j := 2) (c := 0) (by decide +kernel) (by decide +kernel) (by decide) rfl (ln_ok (by decide) (by decide)) (Or.inl rfl) ha
theorem s24_26 (h0 : a ≠ 0) : wp 24 26 [.inr (.inl a), l1, l2] [] h Q ↔ wp 24 27 [.inr (.inl a), l1, l2] [.inr (.inl a)] h Q := wp_step dX3_makeNew_26 (fun _ => if_neg h0)
theorem s24_27  : wp 24 27 [l0, l1, l2] [v0] h Q ↔ wp 24 28 [l0, l1, l2] [.inl 0, v0] h Q := w_const1 dX3_makeNew_27 k_0
theorem s24_28 (ha : tg a = 3) : wp 24 28 [l0, l1, l2] [.inl z, .inr (.inl a)] (hp S D) Q ↔ wp 24 31 [l0, l1, l2] [] (hp S (up D a 3 z)) Q := w_put dX3_makeNew_28 (t := 3) (j := 3) (c := 0) (by decide +kernel) (by decide +kernel) (by decide) rfl (ln_ok (by decide) (by decide)) (Or.inl rfl) ha
theorem s24_31 (h0 : a ≠ 0) : wp 24 31 [.inr (.inl a), l1, l2] [] h Q ↔ wp 24 32 [.inr (.inl a), l1, l2] [.inr (.inl a)] h Q := wp_step dX3_makeNew_31 (fun _ => if_neg h0)
theorem s24_32  : wp 24 32 [l0, l1, l2] [v0] h Q ↔ wp 24 33 [l0, l1, l2] [.inl 0, v0] h Q := w_const1 dX3_makeNew_32 k_0
theorem s24_33 (ha : tg a = 3) : wp 24 33 [l0, l1, l2] [.inl z, .inr (.inl a)] (hp S D) Q ↔ wp 24 36 [l0, l1, l2] [] (hp S (up D a 4 z)) Q := w_put dX3_makeNew_33 (t := 3) (j := 4) (c := 0) (by decide +kernel) (by decide +kernel) (by decide) rfl (ln_ok (by decide) (by decide)) (Or.inl rfl) ha
theorem s24_36 (h0 : a ≠ 0) : wp 24 36 [.inr (.inl a), l1, l2] [] h Q ↔ wp 24 37 [.inr (.inl a), l1, l2] [.inr (.inl a)] h Q := wp_step dX3_makeNew_36 (fun _ => if_neg h0)
theorem s24_37  : wp 24 37 [l0, l1, l2] [v0] h Q ↔ wp 24 38 [l0, l1, l2] [.inl 0, v0] h Q := w_const1 dX3_makeNew_37 k_0
theorem s24_38 (ha : tg a = 3) (hv : z = 0 ∨ z = 1) : wp 24 38 [l0, l1, l2] [.inl z, .inr (.inl a)] (hp S D) Q ↔ wp 24 41 [l0, l1, l2] [] (hp S (up D a 5 z)) Q := w_put dX3_makeNew_38 (t := 3) (j := 5) (c := 1) (by decide +kernel) (by decide +kernel) (by decide) rfl (ln_ok (by decide) (by decide)) (Or.inr ⟨rfl, hv⟩) ha
theorem s24_41  : wp 24 41 [l0, l1, l2] [] h Q ↔ Q none h := w_retv dX3_makeNew_41 (by decide +kernel)
theorem s25_0 (h0 : a ≠ 0) : wp 25 0 [.inr (.inl a)] [] h Q ↔ wp 25 1 [.inr (.inl a)] [.inr (.inl a)] h Q := wp_step dX3_remove_0 (fun _ => if_neg h0)
theorem s25_1  : wp 25 1 [l0] [v0] h Q ↔ wp 25 2 [l0] [.inl (-1), v0] h Q := w_const1 dX3_remove_1 k_m1
theorem s25_2 (ha : tg a = 3) : wp 25 2 [l0] [.inl z, .inr (.inl a)] (hp S D) Q ↔ wp 25 5 [l0] [] (hp S (up D a 0 z)) Q := w_put dX3_remove_2 (t := 3) (j := 0) (c := 0) (by decide +kernel) (by decide +kernel) (by decide) rfl (ln_ok (by decide) (by decide)) (Or.inl rfl) ha
theorem s25_5  : wp 25 5 [l0] [] h Q ↔ Q none h := w_retv dX3_remove_5 (by decide +kernel)
theorem s26_0 (h0 : a ≠ 0) : wp 26 0 [.inr (.inl a), l1] [] h Q ↔ wp 26 1 [.inr (.inl a), l1] [.inr (.inl a)] h Q := wp_step dX3_copyFrom_0 (fun _ => if_neg h0)
theorem s26_1 (h0 : a ≠ 0) : wp 26 1 [l0, .inr (.inl a)] [v0] h Q ↔ wp 26 2 [l0, .inr (.inl a)] [.inr (.inl a), v0] h Q := wp_step dX3_copyFrom_1 (fun _ => if_neg h0)
theorem s26_2 (ha : tg a = 3) : wp 26 2 [l0, l1] [.inr (.inl a), v0] (hp S D) Q ↔ wp 26 5 [l0, l1] [.inl (D a 0), v0] (hp S D) Q := w_getI dX3_copyFrom_2 (t := 3) (j := 0) (c := 0) (by decide +kernel) (by decide) rfl (ln_ok (by decide) (by decide)) ha
theorem s26_5 (ha : tg a = 3) : wp 26 5 [l0, l1] [.inl z, .inr (.inl a)] (hp S D) Q ↔ wp 26 8 [l0, l1] [] (hp S (up D a 0 z)) Q := w_put dX3_copyFrom_5 (t := 3) (j := 0) (c := 0) (by decide +kernel) (by decide +kernel) (by decide) rfl (ln_ok (by decide) (by decide)) (Or.inl rfl) ha
theorem s26_8 (h0 : a ≠ 0) : wp 26 8 [.inr (.inl a), l1] [] h Q ↔ wp 26 9 [.inr (.inl a), l1] [.inr (.inl a)] h Q := wp_step dX3_copyFrom_8 (fun _ => if_neg h0)
theorem s26_9 (h0 : a ≠ 0) : wp 26 9 [l0, .inr (.inl a)] [v0] h Q ↔ wp 26 10 [l0, .inr (.inl a)] [.inr (.inl a), v0] h Q := wp_step dX3_copyFrom_9 (fun _ => if_neg h0)
theorem s26_10 (ha : tg a = 3) : wp 26 10 [l0, l1] [.inr (.inl a), v0] (hp S D) Q ↔ wp 26 13 [l0, l1] [.inl (D a 1), v0] (hp S D) Q := w_getI dX3_copyFrom_10 (t := 3) (j := 1) (c := 0) (by decide +kernel) (by decide) rfl (ln_ok (by decide) (by decide)) ha
theorem s26_13 (ha : tg a = 3) : wp 26 13 [l0, l1] [.inl z, .inr (.inl a)] (hp S D) Q ↔ wp 26 16 [l0, l1] [] (hp S (up D a 1 z)) Q := w_put dX3_copyFrom_13 (t := 3) (j := 1) (c := 0) (by decide +kernel) (by decide +kernel) (by decide) rfl (ln_ok (by decide) (by decide)) (Or.inl rfl) ha
theorem s26_16 (h0 : a ≠ 0) : wp 26 16 [.inr (.inl a), l1] [] h Q ↔ wp 26 17 [.inr (.inl a), l1] [.inr (.inl a)] h Q := wp_step dX3_copyFrom_16 (fun _ => if_neg h0)
theorem s26_17 (h0 : a ≠ 0) : wp 26 17 [l0, .inr (.inl a)] [v0] h Q ↔ wp 26 18 [l0, .inr (.inl a)] [.inr (.inl a), v0] h Q := wp_step dX3_copyFrom_17 (fun _ => if_neg h0)
theorem s26_18 (ha : tg a = 3) : wp 26 18 [l0, l1] [.inr (.inl a), v0] (hp S D) Q ↔ wp 26 21 [l0, l1] [.inl (D a 2), v0] (hp S D) Q := w_getI dX3_copyFrom_18 (t := 3) (j := 2) (c := 0) (by decide +kernel) (by decide) rfl (ln_ok (by decide) (by decide)) ha
theorem s26_21 (ha : tg a = 3) : wp 26 21 [l0, l1] [.inl z, .inr (.inl a)] (hp S D) Q ↔ wp 26 24 [l0, l1] [] (hp S (up D a 2 z)) Q := w_put dX3_copyFrom_21 (t := 3) (j := 2) (c := 0) (by decide +kernel) (by decide +kernel) (by decide) rfl (ln_ok (by decide) (by decide)) (Or.inl rfl) ha
theorem s26_24 (h0 : a ≠ 0) : wp 26 24 [.inr (.inl a), l1] [] h Q ↔ wp 26 25 [.inr (.inl a), l1] [.inr (.inl a)] h Q := wp_step dX3_copyFrom_24 (fun _ => if_neg h0)
theorem s26_25 (h0 : a ≠ 0) : wp 26 25 [l0, .inr (.inl a)] [v0] h Q ↔ wp 26 26 [l0, .inr (.inl a)] [.inr (.inl a), v0] h Q := wp_step dX3_copyFrom_25 (fun _ => if_neg h0)
theorem s26_26 (ha : tg a = 3) : wp 26 26 [l0, l1] [.inr (.inl a), v0] (hp S D) Q ↔ wp 26 29 [l0, l1] [.inl (D a 3), v0] (hp S D) Q := w_getI dX3_copyFrom_26 (t := 3) (j := 3) (c := 0) (by decide +kernel) (by decide) rfl (ln_ok (by decide) (by decide)) ha
theorem s26_29 (ha : tg a = 3) : wp 26 29 [l0, l1] [.inl z, .inr (.inl a)] (hp S D) Q ↔ wp 26 32 [l0, l1] [] (hp S (up D a 3 z)) Q := w_put dX3_copyFrom_29 (t := 3) (j := 3) (c := 0) (by decide +kernel) (by decide +kernel) (by decide) rfl (ln_ok (by decide) (by decide)) (Or.inl rfl) ha
theorem s26_32 (h0 : a ≠ 0) : wp 26 32 [.inr (.inl a), l1] [] h Q ↔ wp 26 33 [.inr (.inl a), l1] [.inr (.inl a)] h Q := wp_step dX3_copyFrom_32 (fun _ => if_neg h0)
theorem s26_33 (h0 : a ≠ 0) : wp 26 33 [l0, .inr (.inl a)] [v0] h Q ↔ wp 26 34 [l0, .inr (.inl a)] [.inr (.inl a), v0] h Q := wp_step dX3_copyFrom_33 (fun _ => if_neg h0)
theorem s26_34 (ha : tg a = 3) : wp 26 34 [l0, l1] [.inr (.inl a), v0] (hp S D) Q ↔ wp 26 37 [l0, l1] [.inl (D a 4), v0] (hp S D) Q := w_getI dX3_copyFrom_34 (t := 3) (j := 4) (c := 0) (by decide +kernel) (by decide) rfl (ln_ok (by decide) (by decide)) ha
theorem s26_37 (ha : tg a = 3) : wp 26 37 [l0, l1] [.inl z, .inr (.inl a)] (hp S D) Q ↔ wp 26 40 [l0, l1] [] (hp S (up D a 4 z)) Q := w_put dX3_copyFrom_37 (t := 3) (j := 4) (c := 0) (by decide +kernel) (by decide +kernel) (by decide) rfl (ln_ok (by decide) (by decide)) (Or.inl rfl) ha
theorem s26_40 (h0 : a ≠ 0) : wp 26 40 [.inr (.inl a), l1] [] h Q ↔ wp 26 41 [.inr (.inl a), l1] [.inr (.inl a)] h Q := wp_step dX3_copyFrom_40 (fun _ => if_neg h0)
theorem s26_41 (h0 : a ≠ 0) : wp 26 41 [l0, .inr (.inl a)] [v0] h Q ↔ wp 26 42 [l0, .inr (.inl a)] [.inr (.inl a), v0] h Q := wp_step dX3_copyFrom_41 (fun _ => if_neg h0)
theorem s26_42 (ha : tg a = 3) : wp 26 42 [l0, l1] [.inr (.inl a), v0] (hp S D) Q ↔ wp 26 45 [l0, l1] [.inl (D a 5), v0] (hp S D) Q := w_getI dX3_copyFrom_42 (t := 3) (j := 5) (c := 1) (by decide +kernel) (by decide) rfl (ln_ok (by decide) (by decide)) ha
theorem s26_45 (ha : tg a = 3) (hv : z = 0 ∨ z = 1) : wp 26 45 [l0, l1] [.inl z, .inr (.inl a)] (hp S D) Q ↔ wp 26 48 [l0, l1] [] (hp S (up D a 5 z)) Q := w_put dX3_copyFrom_45 (t := 3) (j := 5) (c := 1) (by decide +kernel) (by decide +kernel) (by decide) rfl (ln_ok (by decide) (by decide)) (Or.inr ⟨rfl, hv⟩) ha
theorem s26_48  : wp 26 48 [l0, l1] [] h Q ↔ Q none h := w_retv dX3_copyFrom_48 (by decide +kernel)
theorem s27_0 (h0 : a ≠ 0) : wp 27 0 [.inr (.inl a)] [] h Q ↔ wp 27 1 [.inr (.inl a)] [.inr (.inl a)] h Q := wp_step dX3_isThere_0 (fun _ => if_neg h0)
theorem s27_1 (ha : tg a = 3) : wp 27 1 [l0] [.inr (.inl a)] (hp S D) Q ↔ wp 27 4 [l0] [.inl (D a 0)] (hp S D) Q := w_getI dX3_isThere_1 (t := 3) (j := 0) (c := 0) (by decide +kernel) (by decide) rfl (ln_ok (by decide) (by decide)) ha
theorem s27_4  : wp 27 4 [l0] [v0] h Q ↔ wp 27 5 [l0] [.inl (-1), v0] h Q := w_const1 dX3_isThere_4 k_m1
theorem s27_5  : wp 27 5 [l0] [.inl z, .inl x] h Q ↔ if x = z then wp 27 12 [l0] [] h Q else wp 27 8 [l0] [] h Q := w_ceq dX3_isThere_5 (by decide)
theorem s27_8  : wp 27 8 [l0] [] h Q ↔ wp 27 9 [l0] [.inl 1] h Q := w_const1 dX3_isThere_8 k_1
theorem s27_9  : wp 27 9 [l0] [v0] h Q ↔ wp 27 13 [l0] [v0] h Q := w_goto dX3_isThere_9 (by decide)
theorem s27_12  : wp 27 12 [l0] [] h Q ↔ wp 27 13 [l0] [.inl 0] h Q := w_const1 dX3_isThere_12 k_0
theorem s27_13 (h0 : x = 0 ∨ x = 1) : wp 27 13 [l0] [.inl x] h Q ↔ Q (some (.inl x)) h := w_reti dX3_isThere_13 (e_rz (by decide +kernel) h0)
theorem s28_0 (h0 : a ≠ 0) : wp 28 0 [.inr (.inl a)] [] h Q ↔ wp 28 1 [.inr (.inl a)] [.inr (.inl a)] h Q := wp_step dX3_isBurntOut_0 (fun _ => if_neg h0)
theorem s28_1 (ha : tg a = 3) : wp 28 1 [l0] [.inr (.inl a)] (hp S D) Q ↔ wp 28 4 [l0] [.inl (D a 3)] (hp S D) Q := w_getI dX3_isBurntOut_1 (t := 3) (j := 3) (c := 0) (by decide +kernel) (by decide) rfl (ln_ok (by decide) (by decide)) ha
theorem s28_4 (h0 : a ≠ 0) : wp 28 4 [.inr (.inl a)] [v0] h Q ↔ wp 28 5 [.inr (.inl a)] [.inr (.inl a), v0] h Q := wp_step dX3_isBurntOut_4 (fun _ => if_neg h0)
theorem s28_5 (ha : tg a = 3) : wp 28 5 [l0] [.inr (.inl a), v0] (hp S D) Q ↔ wp 28 8 [l0] [.inl (D a 2), v0] (hp S D) Q := w_getI dX3_isBurntOut_5 (t := 3) (j := 2) (c := 0) (by decide +kernel) (by decide) rfl (ln_ok (by decide) (by decide)) ha
theorem s28_8  : wp 28 8 [l0] [.inl z, .inl x] h Q ↔ if x < z then wp 28 15 [l0] [] h Q else wp 28 11 [l0] [] h Q := w_clt dX3_isBurntOut_8 (by decide)
theorem s28_11  : wp 28 11 [l0] [] h Q ↔ wp 28 12 [l0] [.inl 1] h Q := w_const1 dX3_isBurntOut_11 k_1
theorem s28_12  : wp 28 12 [l0] [v0] h Q ↔ wp 28 16 [l0] [v0] h Q := w_goto dX3_isBurntOut_12 (by decide)
theorem s28_15  : wp 28 15 [l0] [] h Q ↔ wp 28 16 [l0] [.inl 0] h Q := w_const1 dX3_isBurntOut_15 k_0
theorem s28_16 (h0 : x = 0 ∨ x = 1) : wp 28 16 [l0] [.inl x] h Q ↔ Q (some (.inl x)) h := w_reti dX3_isBurntOut_16 (e_rz (by decide +kernel) h0)
theorem s29_0 (h0 : a ≠ 0) : wp 29 0 [.inr (.inl a)] [] h Q ↔ wp 29 1 [.inr (.inl a)] [.inr (.inl a)] h Q := wp_step dX3_isUsable_0 (fun _ => if_neg h0)
theorem s29_1 (ha : tg a = 3) : wp 29 1 [l0] [.inr (.inl a)] (hp S D) Q ↔ wp 27 0 [.inr (.inl a)] [] (hp S D) (kont 29 4 [l0] [] Q) := w_callV (y2 := 27) (vs := []) (st := []) dX3_isUsable_1 (by decide +kernel) rfl (by decide +kernel) (Nat.le_of_ble_eq_true rfl) (eSm_4 (by simp)) 3 rfl (by decide) ha
theorem s29_4  : wp 29 4 [l0] [.inl x] h Q ↔ if x = 0 then wp 29 18 [l0] [] h Q else wp 29 7 [l0] [] h Q := w_eq0 dX3_isUsable_4 (by decide)
theorem s29_7 (h0 : a ≠ 0) : wp 29 7 [.inr (.inl a)] [] h Q ↔ wp 29 8 [.inr (.inl a)] [.inr (.inl a)] h Q := wp_step dX3_isUsable_7 (fun _ => if_neg h0)
theorem s29_8 (ha : tg a = 3) : wp 29 8 [l0] [.inr (.inl a)] (hp S D) Q ↔ wp 28 0 [.inr (.inl a)] [] (hp S D) (kont 29 11 [l0] [] Q) := w_callV (y2 := 28) (vs := []) (st := []) dX3_isUsable_8 (by decide +kernel) rfl (by decide +kernel) (Nat.le_of_ble_eq_true rfl) (eSm_4 (by simp)) 3 rfl (by decide) ha
theorem s29_11  : wp 29 11 [l0] [.inl x] h Q ↔ if x = 0 then wp 29 14 [l0] [] h Q else wp 29 18 [l0] [] h Q := w_ne0 dX3_isUsable_11 (by decide)
theorem s29_14  : wp 29 14 [l0] [] h Q ↔ wp 29 15 [l0] [.inl 1] h Q := w_const1 dX3_isUsable_14 k_1
theorem s29_15  : wp 29 15 [l0] [v0] h Q ↔ wp 29 19 [l0] [v0] h Q := w_goto dX3_isUsable_15 (by decide)
theorem s29_18  : wp 29 18 [l0] [] h Q ↔ wp 29 19 [l0] [.inl 0] h Q := w_const1 dX3_isUsable_18 k_0
theorem s29_19 (h0 : x = 0 ∨ x = 1) : wp 29 19 [l0] [.inl x] h Q ↔ Q (some (.inl x)) h := w_reti dX3_isUsable_19 (e_rz (by decide +kernel) h0)
theorem s30_0 (h0 : a ≠ 0) : wp 30 0 [.inr (.inl a)] [] h Q ↔ wp 30 1 [.inr (.inl a)] [.inr (.inl a)] h Q := wp_step dX3_isFresh_0 (fun _ => if_neg h0)
theorem s30_1 (ha : tg a = 3) : wp 30 1 [l0] [.inr (.inl a)] (hp S D) Q ↔ wp 29 0 [.inr (.inl a)] [] (hp S D) (kont 30 4 [l0] [] Q) := w_callV (y2 := 29) (vs := []) (st := []) dX3_isFresh_1 (by decide +kernel) rfl (by decide +kernel) (Nat.le_of_ble_eq_true rfl) (eSm_4 (by simp)) 3 rfl (by decide) ha
theorem s30_4  : wp 30 4 [l0] [.inl x] h Q ↔ if x = 0 then wp 30 18 [l0] [] h Q else wp 30 7 [l0] [] h Q := w_eq0 dX3_isFresh_4 (by decide)
theorem s30_7 (h0 : a ≠ 0) : wp 30 7 [.inr (.inl a)] [] h Q ↔ wp 30 8 [.inr (.inl a)] [.inr (.inl a)] h Q := wp_step dX3_isFresh_7 (fun _ => if_neg h0)
theorem s30_8 (ha : tg a = 3) : wp 30 8 [l0] [.inr (.inl a)] (hp S D) Q ↔ wp 30 11 [l0] [.inl (D a 5)] (hp S D) Q := w_getI dX3_isFresh_8 (t := 3) (j := 5) (c := 1) (by decide +kernel) (by decide) rfl (ln_ok (by decide) (by decide)) ha
theorem s30_11  : wp 30 11 [l0] [.inl x] h Q ↔ if x = 0 then wp 30 14 [l0] [] h Q else wp 30 18 [l0] [] h Q := w_ne0 dX3_isFresh_11 (by decide)
theorem s30_14  : wp 30 14 [l0] [] h Q ↔ wp 30 15 [l0] [.inl 1] h Q := w_const1 dX3_isFresh_14 k_1
theorem s30_15  : wp 30 15 [l0] [v0] h Q ↔ wp 30 19 [l0] [v0] h Q := w_goto dX3_isFresh_15 (by decide)
theorem s30_18  : wp 30 18 [l0] [] h Q ↔ wp 30 19 [l0] [.inl 0] h Q := w_const1 dX3_isFresh_18 k_0
theorem s30_19 (h0 : x = 0 ∨ x = 1) : wp 30 19 [l0] [.inl x] h Q ↔ Q (some (.inl x)) h := w_reti dX3_isFresh_19 (e_rz (by decide +kernel) h0)
theorem s31_0 (h0 : a ≠ 0) : wp 31 0 [.inr (.inl a)] [] h Q ↔ wp 31 1 [.inr (.inl a)] [.inr (.inl a)] h Q := wp_step dX3_left_0 (fun _ => if_neg h0)
theorem s31_1 (ha : tg a = 3) : wp 31 1 [l0] [.inr (.inl a)] (hp S D) Q ↔ wp 31 4 [l0] [.inl (D a 2)] (hp S D) Q := w_getI dX3_left_1 (t := 3) (j := 2) (c := 0) (by decide +kernel) (by decide) rfl (ln_ok (by decide) (by decide)) ha
theorem s31_4 (h0 : a ≠ 0) : wp 31 4 [.inr (.inl a)] [v0] h Q ↔ wp 31 5 [.inr (.inl a)] [.inr (.inl a), v0] h Q := wp_step dX3_left_4 (fun _ => if_neg h0)
theorem s31_5 (ha : tg a = 3) : wp 31 5 [l0] [.inr (.inl a), v0] (hp S D) Q ↔ wp 31 8 [l0] [.inl (D a 3), v0] (hp S D) Q := w_getI dX3_left_5 (t := 3) (j := 3) (c := 0) (by decide +kernel) (by decide) rfl (ln_ok (by decide) (by decide)) ha
theorem s31_8  : wp 31 8 [l0] [.inl z, .inl x] h Q ↔ wp 31 9 [l0] [.inl (w32 (x - z))] h Q := wp_step dX3_left_8 (fun _ => rfl)
theorem s31_9  : wp 31 9 [l0] [.inl x] h Q ↔ Q (some (.inl x)) h := w_reti dX3_left_9 (e_ri (by decide +kernel))
theorem s32_0 (h0 : a ≠ 0) : wp 32 0 [.inr (.inl a), l1] [] h Q ↔ wp 32 1 [.inr (.inl a), l1] [.inr (.inl a)] h Q := wp_step dX3_current_0 (fun _ => if_neg h0)
theorem s32_1 (ha : tg a = 3) : wp 32 1 [l0, l1] [.inr (.inl a)] (hp S D) Q ↔ wp 32 4 [l0, l1] [.inl (D a 2)] (hp S D) Q := w_getI dX3_current_1 (t := 3) (j := 2) (c := 0) (by decide +kernel) (by decide) rfl (ln_ok (by decide) (by decide)) ha
theorem s32_4  : wp 32 4 [l0, l1] [.inl x] h Q ↔ if 0 < x then wp 32 7 [l0, l1] [] h Q else wp 32 14 [l0, l1] [] h Q := w_le0 dX3_current_4 (by decide)
theorem s32_7 (h0 : a ≠ 0) : wp 32 7 [.inr (.inl a), l1] [] h Q ↔ wp 32 8 [.inr (.inl a), l1] [.inr (.inl a)] h Q := wp_step dX3_current_7 (fun _ => if_neg h0)
theorem s32_8 (ha : tg a = 3) : wp 32 8 [l0, l1] [.inr (.inl a)] (hp S D) Q ↔ wp 28 0 [.inr (.inl a)] [] (hp S D) (kont 32 11 [l0, l1] [] Q) := w_callV (y2 := 28) (vs := []) (st := []) dX3_current_8 (by decide +kernel) rfl (by decide +kernel) (Nat.le_of_ble_eq_true rfl) (eSm_4 (by simp)) 3 rfl (by decide) ha
theorem s32_11  : wp 32 11 [l0, l1] [.inl x] h Q ↔ if x = 0 then wp 32 16 [l0, l1] [] h Q else wp 32 14 [l0, l1] [] h Q := w_eq0 dX3_current_11 (by decide)
theorem s32_14  : wp 32 14 [l0, l1] [] h Q ↔ wp 32 15 [l0, l1] [.inl 0] h Q := w_const1 dX3_current_14 k_0
theorem s32_15  : wp 32 15 [l0, l1] [.inl x] h Q ↔ Q (some (.inl x)) h := w_reti dX3_current_15 (e_ri (by decide +kernel))
theorem s32_16  : wp 32 16 [l0, l1] [] h Q ↔ wp 32 19 [l0, l1] [.inr (.inl 3)] h Q := w_stat dX3_current_16 (by decide +kernel)
theorem s32_19 (h0 : a ≠ 0) : wp 32 19 [.inr (.inl a), l1] [v0] h Q ↔ wp 32 20 [.inr (.inl a), l1] [.inr (.inl a), v0] h Q := wp_step dX3_current_19 (fun _ => if_neg h0)
theorem s32_20 (ha : tg a = 3) : wp 32 20 [l0, l1] [.inr (.inl a), v0] (hp S D) Q ↔ wp 32 23 [l0, l1] [.inl (D a 0), v0] (hp S D) Q := w_getI dX3_current_20 (t := 3) (j := 0) (c := 0) (by decide +kernel) (by decide) rfl (ln_ok (by decide) (by decide)) ha
theorem s32_23  : wp 32 23 [l0, l1] [.inl x1, .inr (.inl a0)] h Q ↔ wp 51 0 [.inr (.inl a0), .inl x1] [] h (kont 32 26 [l0, l1] [] Q) := w_callS (y2 := 51) (kd := 0) (vs := [.inr (.inl a0), .inl x1]) (st := []) dX3_current_23 (by decide +kernel) (by decide) rfl (by decide +kernel) (Nat.le_of_ble_eq_true rfl) (eSm_4 (by simp))
theorem s32_26  : wp 32 26 [l0, l1] [.inl x] h Q ↔ wp 32 27 [l0, .inl x] [] h Q := wp_step dX3_current_26 (fun _ => rfl)
theorem s32_27  : wp 32 27 [l0, .inl x] [] h Q ↔ wp 32 28 [l0, .inl x] [.inl x] h Q := wp_step dX3_current_27 (fun _ => rfl)
theorem s32_28  : wp 32 28 [l0, .inl x] [v0] h Q ↔ wp 32 29 [l0, .inl x] [.inl x, v0] h Q := wp_step dX3_current_28 (fun _ => rfl)
theorem s32_29 (h0 : a ≠ 0) : wp 32 29 [.inr (.inl a), l1] [v0, v1] h Q ↔ wp 32 30 [.inr (.inl a), l1] [.inr (.inl a), v0, v1] h Q := wp_step dX3_current_29 (fun _ => if_neg h0)
theorem s32_30 (ha : tg a = 3) : wp 32 30 [l0, l1] [.inr (.inl a), v0, v1] (hp S D) Q ↔ wp 32 33 [l0, l1] [.inl (D a 3), v0, v1] (hp S D) Q := w_getI dX3_current_30 (t := 3) (j := 3) (c := 0) (by decide +kernel) (by decide) rfl (ln_ok (by decide) (by decide)) ha
theorem s32_33  : wp 32 33 [l0, l1] [.inl z, .inl x, v0] h Q ↔ wp 32 34 [l0, l1] [.inl (w32 (x * z)), v0] h Q := wp_step dX3_current_33 (fun _ => rfl)
theorem s32_34  : wp 32 34 [l0, l1] [v0, v1] h Q ↔ wp 32 35 [l0, l1] [.inl 4, v0, v1] h Q := w_const1 dX3_current_34 k_4
theorem s32_35 (h0 : a ≠ 0) : wp 32 35 [.inr (.inl a), l1] [v0, v1, v2] h Q ↔ wp 32 36 [.inr (.inl a), l1] [.inr (.inl a), v0, v1, v2] h Q := wp_step dX3_current_35 (fun _ => if_neg h0)
theorem s32_36 (ha : tg a = 3) : wp 32 36 [l0, l1] [.inr (.inl a), v0, v1, v2] (hp S D) Q ↔ wp 32 39 [l0, l1] [.inl (D a 2), v0, v1, v2] (hp S D) Q := w_getI dX3_current_36 (t := 3) (j := 2) (c := 0) (by decide +kernel) (by decide) rfl (ln_ok (by decide) (by decide)) ha
theorem s32_39  : wp 32 39 [l0, l1] [.inl z, .inl x, v0, v1] h Q ↔ wp 32 40 [l0, l1] [.inl (w32 (x * z)), v0, v1] h Q := wp_step dX3_current_39 (fun _ => rfl)
theorem s32_40 (h0 : z ≠ 0) : wp 32 40 [l0, l1] [.inl z, .inl x, v0] h Q ↔ wp 32 41 [l0, l1] [.inl (w32 (x.tdiv z)), v0] h Q := w_div dX3_current_40 h0
theorem s32_41  : wp 32 41 [l0, l1] [.inl z, .inl x] h Q ↔ wp 32 42 [l0, l1] [.inl (w32 (x - z))] h Q := wp_step dX3_current_41 (fun _ => rfl)
theorem s32_42  : wp 32 42 [l0, l1] [.inl x] h Q ↔ Q (some (.inl x)) h := w_reti dX3_current_42 (e_ri (by decide +kernel))
theorem s33_0 (h0 : a ≠ 0) : wp 33 0 [.inr (.inl a)] [] h Q ↔ wp 33 1 [.inr (.inl a)] [.inr (.inl a)] h Q := wp_step dX3_wearBySwitchingOn_0 (fun _ => if_neg h0)
theorem s33_1  : wp 33 1 [l0] [.inr (.inl a0)] h Q ↔ wp 33 2 [l0] [.inr (.inl a0), .inr (.inl a0)] h Q := wp_step dX3_wearBySwitchingOn_1 (fun _ => rfl)
theorem s33_2 (ha : tg a = 3) : wp 33 2 [l0] [.inr (.inl a), v0] (hp S D) Q ↔ wp 33 5 [l0] [.inl (D a 3), v0] (hp S D) Q := w_getI dX3_wearBySwitchingOn_2 (t := 3) (j := 3) (c := 0) (by decide +kernel) (by decide) rfl (ln_ok (by decide) (by decide)) ha
theorem s33_5  : wp 33 5 [l0] [v0, v1] h Q ↔ wp 33 8 [l0] [.inr (.inl 4), v0, v1] h Q := w_stat dX3_wearBySwitchingOn_5 (by decide +kernel)
theorem s33_8 (h0 : a ≠ 0) : wp 33 8 [.inr (.inl a)] [v0, v1, v2] h Q ↔ wp 33 9 [.inr (.inl a)] [.inr (.inl a), v0, v1, v2] h Q := wp_step dX3_wearBySwitchingOn_8 (fun _ => if_neg h0)
theorem s33_9 (ha : tg a = 3) : wp 33 9 [l0] [.inr (.inl a), v0, v1, v2] (hp S D) Q ↔ wp 33 12 [l0] [.inl (D a 0), v0, v1, v2] (hp S D) Q := w_getI dX3_wearBySwitchingOn_9 (t := 3) (j := 0) (c := 0) (by decide +kernel) (by decide) rfl (ln_ok (by decide) (by decide)) ha
theorem s33_12  : wp 33 12 [l0] [.inl x1, .inr (.inl a0), v0, v1] h Q ↔ wp 51 0 [.inr (.inl a0), .inl x1] [] h (kont 33 15 [l0] [v0, v1] Q) := w_callS (y2 := 51) (kd := 0) (vs := [.inr (.inl a0), .inl x1]) (st := [v0, v1]) dX3_wearBySwitchingOn_12 (by decide +kernel) (by decide) rfl (by decide +kernel) (Nat.le_of_ble_eq_true rfl) (eSm_4 (by simp))
theorem s33_15  : wp 33 15 [l0] [.inl z, .inl x, v0] h Q ↔ wp 33 16 [l0] [.inl (w32 (x + z)), v0] h Q := wp_step dX3_wearBySwitchingOn_15 (fun _ => rfl)
theorem s33_16 (ha : tg a = 3) : wp 33 16 [l0] [.inl z, .inr (.inl a)] (hp S D) Q ↔ wp 33 19 [l0] [] (hp S (up D a 3 z)) Q := w_put dX3_wearBySwitchingOn_16 (t := 3) (j := 3) (c := 0) (by decide +kernel) (by decide +kernel) (by decide) rfl (ln_ok (by decide) (by decide)) (Or.inl rfl) ha
theorem s33_19  : wp 33 19 [l0] [] h Q ↔ Q none h := w_retv dX3_wearBySwitchingOn_19 (by decide +kernel)
theorem s34_0 (h0 : a ≠ 0) : wp 34 0 [.inr (.inl a), l1, l2, l3, l4] [] h Q ↔ wp 34 1 [.inr (.inl a), l1, l2, l3, l4] [.inr (.inl a)] h Q := wp_step dX3_growsTiredByBurning_0 (fun _ => if_neg h0)
theorem s34_1  : wp 34 1 [l0, l1, l2, l3, l4] [.inr (.inl a0)] h Q ↔ wp 34 2 [l0, l1, l2, l3, l4] [.inr (.inl a0), .inr (.inl a0)] h Q := wp_step dX3_growsTiredByBurning_1 (fun _ => rfl)
theorem s34_2 (ha : tg a = 3) : wp 34 2 [l0, l1, l2, l3, l4] [.inr (.inl a), v0] (hp S D) Q ↔ wp 34 5 [l0, l1, l2, l3, l4] [.inl (D a 3), v0] (hp S D) Q := w_getI dX3_growsTiredByBurning_2 (t := 3) (j := 3) (c := 0) (by decide +kernel) (by decide) rfl (ln_ok (by decide) (by decide)) ha
theorem s34_5  : wp 34 5 [l0, l1, l2, l3, l4] [v0, v1] h Q ↔ wp 34 6 [l0, l1, l2, l3, l4] [.inl 1, v0, v1] h Q := w_const1 dX3_growsTiredByBurning_5 k_1
theorem s34_6  : wp 34 6 [l0, l1, l2, l3, l4] [.inl z, .inl x, v0] h Q ↔ wp 34 7 [l0, l1, l2, l3, l4] [.inl (w32 (x + z)), v0] h Q := wp_step dX3_growsTiredByBurning_6 (fun _ => rfl)
theorem s34_7 (ha : tg a = 3) : wp 34 7 [l0, l1, l2, l3, l4] [.inl z, .inr (.inl a)] (hp S D) Q ↔ wp 34 10 [l0, l1, l2, l3, l4] [] (hp S (up D a 3 z)) Q := w_put dX3_growsTiredByBurning_7 (t := 3) (j := 3) (c := 0) (by decide +kernel) (by decide +kernel) (by decide) rfl (ln_ok (by decide) (by decide)) (Or.inl rfl) ha
theorem s34_10  : wp 34 10 [l0, l1, l2, l3, l4] [] h Q ↔ wp 34 12 [l0, l1, l2, l3, l4] [.inl 100] h Q := w_const2 dX3_growsTiredByBurning_10 k_100 k8_100
theorem s34_12 (h0 : a ≠ 0) : wp 34 12 [.inr (.inl a), l1, l2, l3, l4] [v0] h Q ↔ wp 34 13 [.inr (.inl a), l1, l2, l3, l4] [.inr (.inl a), v0] h Q := wp_step dX3_growsTiredByBurning_12 (fun _ => if_neg h0)
theorem s34_13 (ha : tg a = 3) : wp 34 13 [l0, l1, l2, l3, l4] [.inr (.inl a), v0] (hp S D) Q ↔ wp 32 0 [.inr (.inl a), .inr (.inl 0)] [] (hp S D) (kont 34 16 [l0, l1, l2, l3, l4] [v0] Q) := w_callV (y2 := 32) (vs := []) (st := [v0]) dX3_growsTiredByBurning_13 (by decide +kernel) rfl (by decide +kernel) (Nat.le_of_ble_eq_true rfl) (eSm_4 (by simp)) 3 rfl (by decide) ha
theorem s34_16  : wp 34 16 [l0, l1, l2, l3, l4] [.inl z, .inl x] h Q ↔ wp 34 17 [l0, l1, l2, l3, l4] [.inl (w32 (x * z))] h Q := wp_step dX3_growsTiredByBurning_16 (fun _ => rfl)
theorem s34_17  : wp 34 17 [l0, .inl x, l2, l3, l4] [v0] h Q ↔ wp 34 18 [l0, .inl x, l2, l3, l4] [.inl x, v0] h Q := wp_step dX3_growsTiredByBurning_17 (fun _ => rfl)
theorem s34_18  : wp 34 18 [l0, l1, l2, l3, l4] [v0, v1] h Q ↔ wp 34 21 [l0, l1, l2, l3, l4] [.inr (.inl 3), v0, v1] h Q := w_stat dX3_growsTiredByBurning_18 (by decide +kernel)
theorem s34_21 (h0 : a ≠ 0) : wp 34 21 [.inr (.inl a), l1, l2, l3, l4] [v0, v1, v2] h Q ↔ wp 34 22 [.inr (.inl a), l1, l2, l3, l4] [.inr (.inl a), v0, v1, v2] h Q := wp_step dX3_growsTiredByBurning_21 (fun _ => if_neg h0)
theorem s34_22 (ha : tg a = 3) : wp 34 22 [l0, l1, l2, l3, l4] [.inr (.inl a), v0, v1, v2] (hp S D) Q ↔ wp 34 25 [l0, l1, l2, l3, l4] [.inl (D a 0), v0, v1, v2] (hp S D) Q := w_getI dX3_growsTiredByBurning_22 (t := 3) (j := 0) (c := 0) (by decide +kernel) (by decide) rfl (ln_ok (by decide) (by decide)) ha
theorem s34_25  : wp 34 25 [l0, l1, l2, l3, l4] [.inl x1, .inr (.inl a0), v0, v1] h Q ↔ wp 51 0 [.inr (.inl a0), .inl x1] [] h (kont 34 28 [l0, l1, l2, l3, l4] [v0, v1] Q) := w_callS (y2 := 51) (kd := 0) (vs := [.inr (.inl a0), .inl x1]) (st := [v0, v1]) dX3_growsTiredByBurning_25 (by decide +kernel) (by decide) rfl (by decide +kernel) (Nat.le_of_ble_eq_true rfl) (eSm_4 (by simp))
theorem s34_28  : wp 34 28 [l0, l1, l2, l3, l4] [.inl z, .inl x, v0] h Q ↔ wp 34 29 [l0, l1, l2, l3, l4] [.inl (w32 (x * z)), v0] h Q := wp_step dX3_growsTiredByBurning_28 (fun _ => rfl)
theorem s34_29  : wp 34 29 [l0, l1, l2, l3, l4] [.inl z, .inl x] h Q ↔ if x < z then wp 34 32 [l0, l1, l2, l3, l4] [] h Q else wp 34 36 [l0, l1, l2, l3, l4] [] h Q := w_cge dX3_growsTiredByBurning_29 (by decide)
theorem s34_32  : wp 34 32 [l0, l1, l2, l3, l4] [] h Q ↔ wp 34 33 [l0, l1, l2, l3, l4] [.inl 1] h Q := w_const1 dX3_growsTiredByBurning_32 k_1
theorem s34_33  : wp 34 33 [l0, l1, l2, l3, l4] [v0] h Q ↔ wp 34 37 [l0, l1, l2, l3, l4] [v0] h Q := w_goto dX3_growsTiredByBurning_33 (by decide)
theorem s34_36  : wp 34 36 [l0, l1, l2, l3, l4] [] h Q ↔ wp 34 37 [l0, l1, l2, l3, l4] [.inl 0] h Q := w_const1 dX3_growsTiredByBurning_36 k_0
theorem s34_37  : wp 34 37 [l0, l1, l2, l3, l4] [.inl x] h Q ↔ wp 34 38 [l0, l1, l2, .inl x, l4] [] h Q := wp_step dX3_growsTiredByBurning_37 (fun _ => rfl)
theorem s34_38 (h0 : a ≠ 0) : wp 34 38 [.inr (.inl a), l1, l2, l3, l4] [] h Q ↔ wp 34 39 [.inr (.inl a), l1, l2, l3, l4] [.inr (.inl a)] h Q := wp_step dX3_growsTiredByBurning_38 (fun _ => if_neg h0)
theorem s34_39  : wp 34 39 [l0, l1, l2, .inl x, l4] [v0] h Q ↔ wp 34 40 [l0, l1, l2, .inl x, l4] [.inl x, v0] h Q := wp_step dX3_growsTiredByBurning_39 (fun _ => rfl)
theorem s34_40  : wp 34 40 [l0, l1, l2, l3, l4] [.inl x, v0] h Q ↔ if x = 0 then wp 34 52 [l0, l1, l2, l3, l4] [v0] h Q else wp 34 43 [l0, l1, l2, l3, l4] [v0] h Q := w_eq0 dX3_growsTiredByBurning_40 (by decide)
theorem s34_43 (h0 : a ≠ 0) : wp 34 43 [.inr (.inl a), l1, l2, l3, l4] [v0] h Q ↔ wp 34 44 [.inr (.inl a), l1, l2, l3, l4] [.inr (.inl a), v0] h Q := wp_step dX3_growsTiredByBurning_43 (fun _ => if_neg h0)
theorem s34_44 (ha : tg a = 3) : wp 34 44 [l0, l1, l2, l3, l4] [.inr (.inl a), v0] (hp S D) Q ↔ wp 34 47 [l0, l1, l2, l3, l4] [.inl (D a 4), v0] (hp S D) Q := w_getI dX3_growsTiredByBurning_44 (t := 3) (j := 4) (c := 0) (by decide +kernel) (by decide) rfl (ln_ok (by decide) (by decide)) ha
theorem s34_47  : wp 34 47 [l0, l1, l2, l3, l4] [v0, v1] h Q ↔ wp 34 48 [l0, l1, l2, l3, l4] [.inl 1, v0, v1] h Q := w_const1 dX3_growsTiredByBurning_47 k_1
theorem s34_48  : wp 34 48 [l0, l1, l2, l3, l4] [.inl z, .inl x, v0] h Q ↔ wp 34 49 [l0, l1, l2, l3, l4] [.inl (w32 (x + z)), v0] h Q := wp_step dX3_growsTiredByBurning_48 (fun _ => rfl)
theorem s34_49  : wp 34 49 [l0, l1, l2, l3, l4] [v0, v1] h Q ↔ wp 34 53 [l0, l1, l2, l3, l4] [v0, v1] h Q := w_goto dX3_growsTiredByBurning_49 (by decide)
theorem s34_52  : wp 34 52 [l0, l1, l2, l3, l4] [v0] h Q ↔ wp 34 53 [l0, l1, l2, l3, l4] [.inl 0, v0] h Q := w_const1 dX3_growsTiredByBurning_52 k_0
theorem s34_53 (ha : tg a = 3) : wp 34 53 [l0, l1, l2, l3, l4] [.inl z, .inr (.inl a)] (hp S D) Q ↔ wp 34 56 [l0, l1, l2, l3, l4] [] (hp S (up D a 4 z)) Q := w_put dX3_growsTiredByBurning_53 (t := 3) (j := 4) (c := 0) (by decide +kernel) (by decide +kernel) (by decide) rfl (ln_ok (by decide) (by decide)) (Or.inl rfl) ha
theorem s34_56 (h0 : a ≠ 0) : wp 34 56 [.inr (.inl a), l1, l2, l3, l4] [] h Q ↔ wp 34 57 [.inr (.inl a), l1, l2, l3, l4] [.inr (.inl a)] h Q := wp_step dX3_growsTiredByBurning_56 (fun _ => if_neg h0)
theorem s34_57 (ha : tg a = 3) : wp 34 57 [l0, l1, l2, l3, l4] [.inr (.inl a)] (hp S D) Q ↔ wp 34 60 [l0, l1, l2, l3, l4] [.inl (D a 5)] (hp S D) Q := w_getI dX3_growsTiredByBurning_57 (t := 3) (j := 5) (c := 1) (by decide +kernel) (by decide) rfl (ln_ok (by decide) (by decide)) ha
theorem s34_60  : wp 34 60 [l0, l1, l2, l3, l4] [.inl x] h Q ↔ if x = 0 then wp 34 63 [l0, l1, l2, l3, l4] [] h Q else wp 34 75 [l0, l1, l2, l3, l4] [] h Q := w_ne0 dX3_growsTiredByBurning_60 (by decide)
theorem s34_63 (h0 : a ≠ 0) : wp 34 63 [.inr (.inl a), l1, l2, l3, l4] [] h Q ↔ wp 34 64 [.inr (.inl a), l1, l2, l3, l4] [.inr (.inl a)] h Q := wp_step dX3_growsTiredByBurning_63 (fun _ => if_neg h0)
theorem s34_64 (ha : tg a = 3) : wp 34 64 [l0, l1, l2, l3, l4] [.inr (.inl a)] (hp S D) Q ↔ wp 34 67 [l0, l1, l2, l3, l4] [.inl (D a 4)] (hp S D) Q := w_getI dX3_growsTiredByBurning_64 (t := 3) (j := 4) (c := 0) (by decide +kernel) (by decide) rfl (ln_ok (by decide) (by decide)) ha
theorem s34_67  : wp 34 67 [l0, l1, .inl x, l3, l4] [v0] h Q ↔ wp 34 68 [l0, l1, .inl x, l3, l4] [.inl x, v0] h Q := wp_step dX3_growsTiredByBurning_67 (fun _ => rfl)
theorem s34_68  : wp 34 68 [l0, l1, l2, l3, l4] [.inl z, .inl x] h Q ↔ if x < z then wp 34 75 [l0, l1, l2, l3, l4] [] h Q else wp 34 71 [l0, l1, l2, l3, l4] [] h Q := w_clt dX3_growsTiredByBurning_68 (by decide)
theorem s34_71  : wp 34 71 [l0, l1, l2, l3, l4] [] h Q ↔ wp 34 72 [l0, l1, l2, l3, l4] [.inl 1] h Q := w_const1 dX3_growsTiredByBurning_71 k_1
theorem s34_72  : wp 34 72 [l0, l1, l2, l3, l4] [v0] h Q ↔ wp 34 76 [l0, l1, l2, l3, l4] [v0] h Q := w_goto dX3_growsTiredByBurning_72 (by decide)
theorem s34_75  : wp 34 75 [l0, l1, l2, l3, l4] [] h Q ↔ wp 34 76 [l0, l1, l2, l3, l4] [.inl 0] h Q := w_const1 dX3_growsTiredByBurning_75 k_0
theorem s34_76  : wp 34 76 [l0, l1, l2, l3, l4] [.inl x] h Q ↔ wp 34 78 [l0, l1, l2, l3, .inl x] [] h Q := wp_step dX3_growsTiredByBurning_76 (fun _ => rfl)
theorem s34_78 (h0 : a ≠ 0) : wp 34 78 [.inr (.inl a), l1, l2, l3, l4] [] h Q ↔ wp 34 79 [.inr (.inl a), l1, l2, l3, l4] [.inr (.inl a)] h Q := wp_step dX3_growsTiredByBurning_78 (fun _ => if_neg h0)
theorem s34_79 (h0 : a ≠ 0) : wp 34 79 [.inr (.inl a), l1, l2, l3, l4] [v0] h Q ↔ wp 34 80 [.inr (.inl a), l1, l2, l3, l4] [.inr (.inl a), v0] h Q := wp_step dX3_growsTiredByBurning_79 (fun _ => if_neg h0)
theorem s34_80 (ha : tg a = 3) : wp 34 80 [l0, l1, l2, l3, l4] [.inr (.inl a), v0] (hp S D) Q ↔ wp 34 83 [l0, l1, l2, l3, l4] [.inl (D a 5), v0] (hp S D) Q := w_getI dX3_growsTiredByBurning_80 (t := 3) (j := 5) (c := 1) (by decide +kernel) (by decide) rfl (ln_ok (by decide) (by decide)) ha
theorem s34_83  : wp 34 83 [l0, l1, l2, l3, l4] [.inl x, v0] h Q ↔ if x = 0 then wp 34 86 [l0, l1, l2, l3, l4] [v0] h Q else wp 34 91 [l0, l1, l2, l3, l4] [v0] h Q := w_ne0 dX3_growsTiredByBurning_83 (by decide)
theorem s34_86  : wp 34 86 [l0, l1, l2, l3, .inl x] [v0] h Q ↔ wp 34 88 [l0, l1, l2, l3, .inl x] [.inl x, v0] h Q := wp_step dX3_growsTiredByBurning_86 (fun _ => rfl)
theorem s34_88  : wp 34 88 [l0, l1, l2, l3, l4] [.inl x, v0] h Q ↔ if x = 0 then wp 34 95 [l0, l1, l2, l3, l4] [v0] h Q else wp 34 91 [l0, l1, l2, l3, l4] [v0] h Q := w_eq0 dX3_growsTiredByBurning_88 (by decide)
theorem s34_91  : wp 34 91 [l0, l1, l2, l3, l4] [v0] h Q ↔ wp 34 92 [l0, l1, l2, l3, l4] [.inl 1, v0] h Q := w_const1 dX3_growsTiredByBurning_91 k_1
theorem s34_92  : wp 34 92 [l0, l1, l2, l3, l4] [v0, v1] h Q ↔ wp 34 96 [l0, l1, l2, l3, l4] [v0, v1] h Q := w_goto dX3_growsTiredByBurning_92 (by decide)
theorem s34_95  : wp 34 95 [l0, l1, l2, l3, l4] [v0] h Q ↔ wp 34 96 [l0, l1, l2, l3, l4] [.inl 0, v0] h Q := w_const1 dX3_growsTiredByBurning_95 k_0
theorem s34_96 (ha : tg a = 3) (hv : z = 0 ∨ z = 1) : wp 34 96 [l0, l1, l2, l3, l4] [.inl z, .inr (.inl a)] (hp S D) Q ↔ wp 34 99 [l0, l1, l2, l3, l4] [] (hp S (up D a 5 z)) Q := w_put dX3_growsTiredByBurning_96 (t := 3) (j := 5) (c := 1) (by decide +kernel) (by decide +kernel) (by decide) rfl (ln_ok (by decide) (by decide)) (Or.inr ⟨rfl, hv⟩) ha
theorem s34_99  : wp 34 99 [l0, l1, l2, l3, .inl x] [] h Q ↔ wp 34 101 [l0, l1, l2, l3, .inl x] [.inl x] h Q := wp_step dX3_growsTiredByBurning_99 (fun _ => rfl)
theorem s34_101 (h0 : x = 0 ∨ x = 1) : wp 34 101 [l0, l1, l2, l3, l4] [.inl x] h Q ↔ Q (some (.inl x)) h := w_reti dX3_growsTiredByBurning_101 (e_rz (by decide +kernel) h0)
theorem s35_0 (h0 : a ≠ 0) : wp 35 0 [.inr (.inl a)] [] h Q ↔ wp 35 1 [.inr (.inl a)] [.inr (.inl a)] h Q := wp_step dX4_init_0 (fun _ => if_neg h0)
theorem s35_1 (h8 : 8 ≤ a) : wp 35 1 [l0] [.inr (.inl a)] h Q ↔ wp 35 4 [l0] [] h Q := w_callO dX4_init_1 (y2 := 0) (by decide +kernel) ⟨eSm_4 (by simp), by decide +kernel, by decide +kernel⟩ h8
theorem s35_4 (h0 : a ≠ 0) : wp 35 4 [.inr (.inl a)] [] h Q ↔ wp 35 5 [.inr (.inl a)] [.inr (.inl a)] h Q := wp_step dX4_init_4 (fun _ => if_neg h0)
theorem s35_5  : wp 35 5 [l0] [v0] h Q ↔ wp 35 7 [l0] [.inl 10, v0] h Q := w_const2 dX4_init_5 k_10 k8_10
theorem s35_12 (h0 : a ≠ 0) : wp 35 12 [.inr (.inl a)] [] h Q ↔ wp 35 13 [.inr (.inl a)] [.inr (.inl a)] h Q := wp_step dX4_init_12 (fun _ => if_neg h0)
theorem s35_13  : wp 35 13 [l0] [v0] h Q ↔ wp 35 15 [l0] [.inl 10, v0] h Q := w_const2 dX4_init_13 k_10 k8_10
theorem s35_20 (h0 : a ≠ 0) : wp 35 20 [.inr (.inl a)] [] h Q ↔ wp 35 21 [.inr (.inl a)] [.inr (.inl a)] h Q := wp_step dX4_init_20 (fun _ => if_neg h0)
theorem s35_21  : wp 35 21 [l0] [v0] h Q ↔ wp 35 23 [l0] [.inl 10, v0] h Q := w_const2 dX4_init_21 k_10 k8_10
theorem s35_28  : wp 35 28 [l0] [] h Q ↔ Q none h := w_retv dX4_init_28 (by decide +kernel)
theorem s36_0 (h0 : a ≠ 0) : wp 36 0 [l0, .inr (.inl a)] [] h Q ↔ wp 36 1 [l0, .inr (.inl a)] [.inr (.inl a)] h Q := wp_step dX4_copyFrom_0 (fun _ => if_neg h0)
theorem s36_1 (ha : tg a = 4) : wp 36 1 [l0, l1] [.inr (.inl a)] (hp S D) Q ↔ wp 36 4 [l0, l1] [.inr (.inl (a + 1))] (hp S D) Q := w_getR dX4_copyFrom_1 (t := 4) (j := 0) (c := 2) (by decide +kernel) (by decide) rfl (ln_ok (by decide) (by decide)) ha
theorem s36_4 (h0 : a ≠ 0) : wp 36 4 [.inr (.inl a), l1] [v0] h Q ↔ wp 36 5 [.inr (.inl a), l1] [.inr (.inl a), v0] h Q := wp_step dX4_copyFrom_4 (fun _ => if_neg h0)
theorem s36_5 (ha : tg a = 4) : wp 36 5 [l0, l1] [.inr (.inl a), v0] (hp S D) Q ↔ wp 36 8 [l0, l1] [.inr (.inl (a + 1)), v0] (hp S D) Q := w_getR dX4_copyFrom_5 (t := 4) (j := 0) (c := 2) (by decide +kernel) (by decide) rfl (ln_ok (by decide) (by decide)) ha
theorem s36_8  : wp 36 8 [l0, l1] [.inr (.inl a1), .inr (.inl a0)] h Q ↔ wp 53 0 [.inr (.inl a0), .inr (.inl a1)] [] h (kont 36 11 [l0, l1] [] Q) := w_callS (y2 := 53) (kd := 0) (vs := [.inr (.inl a0), .inr (.inl a1)]) (st := []) dX4_copyFrom_8 (by decide +kernel) (by decide) rfl (by decide +kernel) (Nat.le_of_ble_eq_true rfl) (eSm_4 (by simp))
theorem s36_11 (h0 : a ≠ 0) : wp 36 11 [l0, .inr (.inl a)] [] h Q ↔ wp 36 12 [l0, .inr (.inl a)] [.inr (.inl a)] h Q := wp_step dX4_copyFrom_11 (fun _ => if_neg h0)
theorem s36_12 (ha : tg a = 4) : wp 36 12 [l0, l1] [.inr (.inl a)] (hp S D) Q ↔ wp 36 15 [l0, l1] [.inr (.inl (a + 2))] (hp S D) Q := w_getR dX4_copyFrom_12 (t := 4) (j := 1) (c := 2) (by decide +kernel) (by decide) rfl (ln_ok (by decide) (by decide)) ha
theorem s36_15 (h0 : a ≠ 0) : wp 36 15 [.inr (.inl a), l1] [v0] h Q ↔ wp 36 16 [.inr (.inl a), l1] [.inr (.inl a), v0] h Q := wp_step dX4_copyFrom_15 (fun _ => if_neg h0)
theorem s36_16 (ha : tg a = 4) : wp 36 16 [l0, l1] [.inr (.inl a), v0] (hp S D) Q ↔ wp 36 19 [l0, l1] [.inr (.inl (a + 2)), v0] (hp S D) Q := w_getR dX4_copyFrom_16 (t := 4) (j := 1) (c := 2) (by decide +kernel) (by decide) rfl (ln_ok (by decide) (by decide)) ha
theorem s36_19  : wp 36 19 [l0, l1] [.inr (.inl a1), .inr (.inl a0)] h Q ↔ wp 53 0 [.inr (.inl a0), .inr (.inl a1)] [] h (kont 36 22 [l0, l1] [] Q) := w_callS (y2 := 53) (kd := 0) (vs := [.inr (.inl a0), .inr (.inl a1)]) (st := []) dX4_copyFrom_19 (by decide +kernel) (by decide) rfl (by decide +kernel) (Nat.le_of_ble_eq_true rfl) (eSm_4 (by simp))
theorem s36_22 (h0 : a ≠ 0) : wp 36 22 [l0, .inr (.inl a)] [] h Q ↔ wp 36 23 [l0, .inr (.inl a)] [.inr (.inl a)] h Q := wp_step dX4_copyFrom_22 (fun _ => if_neg h0)
theorem s36_23 (ha : tg a = 4) : wp 36 23 [l0, l1] [.inr (.inl a)] (hp S D) Q ↔ wp 36 26 [l0, l1] [.inr (.inl (a + 3))] (hp S D) Q := w_getR dX4_copyFrom_23 (t := 4) (j := 2) (c := 2) (by decide +kernel) (by decide) rfl (ln_ok (by decide) (by decide)) ha
theorem s36_26 (h0 : a ≠ 0) : wp 36 26 [.inr (.inl a), l1] [v0] h Q ↔ wp 36 27 [.inr (.inl a), l1] [.inr (.inl a), v0] h Q := wp_step dX4_copyFrom_26 (fun _ => if_neg h0)
theorem s36_27 (ha : tg a = 4) : wp 36 27 [l0, l1] [.inr (.inl a), v0] (hp S D) Q ↔ wp 36 30 [l0, l1] [.inr (.inl (a + 3)), v0] (hp S D) Q := w_getR dX4_copyFrom_27 (t := 4) (j := 2) (c := 2) (by decide +kernel) (by decide) rfl (ln_ok (by decide) (by decide)) ha
theorem s36_30  : wp 36 30 [l0, l1] [.inr (.inl a1), .inr (.inl a0)] h Q ↔ wp 53 0 [.inr (.inl a0), .inr (.inl a1)] [] h (kont 36 33 [l0, l1] [] Q) := w_callS (y2 := 53) (kd := 0) (vs := [.inr (.inl a0), .inr (.inl a1)]) (st := []) dX4_copyFrom_30 (by decide +kernel) (by decide) rfl (by decide +kernel) (Nat.le_of_ble_eq_true rfl) (eSm_4 (by simp))
theorem s36_33 (h0 : a ≠ 0) : wp 36 33 [.inr (.inl a), l1] [] h Q ↔ wp 36 34 [.inr (.inl a), l1] [.inr (.inl a)] h Q := wp_step dX4_copyFrom_33 (fun _ => if_neg h0)
theorem s36_34 (h0 : a ≠ 0) : wp 36 34 [l0, .inr (.inl a)] [v0] h Q ↔ wp 36 35 [l0, .inr (.inl a)] [.inr (.inl a), v0] h Q := wp_step dX4_copyFrom_34 (fun _ => if_neg h0)
theorem s36_35 (ha : tg a = 4) : wp 36 35 [l0, l1] [.inr (.inl a), v0] (hp S D) Q ↔ wp 36 38 [l0, l1] [.inl (D a 3), v0] (hp S D) Q := w_getI dX4_copyFrom_35 (t := 4) (j := 3) (c := 0) (by decide +kernel) (by decide) rfl (ln_ok (by decide) (by decide)) ha
theorem s36_38 (ha : tg a = 4) : wp 36 38 [l0, l1] [.inl z, .inr (.inl a)] (hp S D) Q ↔ wp 36 41 [l0, l1] [] (hp S (up D a 3 z)) Q := w_put dX4_copyFrom_38 (t := 4) (j := 3) (c := 0) (by decide +kernel) (by decide +kernel) (by decide) rfl (ln_ok (by decide) (by decide)) (Or.inl rfl) ha
theorem s36_41  : wp 36 41 [l0, l1] [] h Q ↔ Q none h := w_retv dX4_copyFrom_41 (by decide +kernel)
theorem s37_0 (h0 : a ≠ 0) : wp 37 0 [.inr (.inl a)] [] h Q ↔ wp 37 1 [.inr (.inl a)] [.inr (.inl a)] h Q := wp_step dX4_empty_0 (fun _ => if_neg h0)
theorem s37_1  : wp 37 1 [l0] [v0] h Q ↔ wp 37 2 [l0] [.inl 0, v0] h Q := w_const1 dX4_empty_1 k_0
theorem s37_2 (ha : tg a = 4) : wp 37 2 [l0] [.inl z, .inr (.inl a)] (hp S D) Q ↔ wp 37 5 [l0] [] (hp S (up D a 3 z)) Q := w_put dX4_empty_2 (t := 4) (j := 3) (c := 0) (by decide +kernel) (by decide +kernel) (by decide) rfl (ln_ok (by decide) (by decide)) (Or.inl rfl) ha
theorem s37_5  : wp 37 5 [l0] [] h Q ↔ Q none h := w_retv dX4_empty_5 (by decide +kernel)
theorem s38_0  : wp 38 0 [l0, l1, l2] [] h Q ↔ wp 38 1 [l0, l1, l2] [.inl 0] h Q := w_const1 dX4_rowOfTick_0 k_0
theorem s38_1  : wp 38 1 [l0, l1, l2] [.inl x] h Q ↔ wp 38 2 [l0, l1, .inl x] [] h Q := wp_step dX4_rowOfTick_1 (fun _ => rfl)
theorem s38_2  : wp 38 2 [l0, l1, .inl x] [] h Q ↔ wp 38 3 [l0, l1, .inl x] [.inl x] h Q := wp_step dX4_rowOfTick_2 (fun _ => rfl)
theorem s38_3 (h0 : a ≠ 0) : wp 38 3 [.inr (.inl a), l1, l2] [v0] h Q ↔ wp 38 4 [.inr (.inl a), l1, l2] [.inr (.inl a), v0] h Q := wp_step dX4_rowOfTick_3 (fun _ => if_neg h0)
theorem s38_4 (ha : tg a = 4) : wp 38 4 [l0, l1, l2] [.inr (.inl a), v0] (hp S D) Q ↔ wp 38 7 [l0, l1, l2] [.inl (D a 3), v0] (hp S D) Q := w_getI dX4_rowOfTick_4 (t := 4) (j := 3) (c := 0) (by decide +kernel) (by decide) rfl (ln_ok (by decide) (by decide)) ha
theorem s38_7  : wp 38 7 [l0, l1, l2] [.inl z, .inl x] h Q ↔ if x < z then wp 38 10 [l0, l1, l2] [] h Q else wp 38 30 [l0, l1, l2] [] h Q := w_cge dX4_rowOfTick_7 (by decide)
theorem s38_10 (h0 : a ≠ 0) : wp 38 10 [.inr (.inl a), l1, l2] [] h Q ↔ wp 38 11 [.inr (.inl a), l1, l2] [.inr (.inl a)] h Q := wp_step dX4_rowOfTick_10 (fun _ => if_neg h0)
theorem s38_11 (ha : tg a = 4) : wp 38 11 [l0, l1, l2] [.inr (.inl a)] (hp S D) Q ↔ wp 38 14 [l0, l1, l2] [.inr (.inl (a + 1))] (hp S D) Q := w_getR dX4_rowOfTick_11 (t := 4) (j := 0) (c := 2) (by decide +kernel) (by decide) rfl (ln_ok (by decide) (by decide)) ha
theorem s38_14  : wp 38 14 [l0, l1, .inl x] [v0] h Q ↔ wp 38 15 [l0, l1, .inl x] [.inl x, v0] h Q := wp_step dX4_rowOfTick_14 (fun _ => rfl)
theorem s38_15  : wp 38 15 [l0, l1, l2] [.inl x1, .inr (.inl a0)] h Q ↔ wp 51 0 [.inr (.inl a0), .inl x1] [] h (kont 38 18 [l0, l1, l2] [] Q) := w_callS (y2 := 51) (kd := 0) (vs := [.inr (.inl a0), .inl x1]) (st := []) dX4_rowOfTick_15 (by decide +kernel) (by decide) rfl (by decide +kernel) (Nat.le_of_ble_eq_true rfl) (eSm_4 (by simp))
theorem s38_18  : wp 38 18 [l0, .inl x, l2] [v0] h Q ↔ wp 38 19 [l0, .inl x, l2] [.inl x, v0] h Q := wp_step dX4_rowOfTick_18 (fun _ => rfl)
theorem s38_19  : wp 38 19 [l0, l1, l2] [.inl z, .inl x] h Q ↔ if x = z then wp 38 22 [l0, l1, l2] [] h Q else wp 38 24 [l0, l1, l2] [] h Q := w_cne dX4_rowOfTick_19 (by decide)
theorem s38_22  : wp 38 22 [l0, l1, .inl x] [] h Q ↔ wp 38 23 [l0, l1, .inl x] [.inl x] h Q := wp_step dX4_rowOfTick_22 (fun _ => rfl)
theorem s38_23  : wp 38 23 [l0, l1, l2] [.inl x] h Q ↔ Q (some (.inl x)) h := w_reti dX4_rowOfTick_23 (e_ri (by decide +kernel))
theorem s38_24  : wp 38 24 [l0, l1, .inl x] [] h Q ↔ wp 38 27 [l0, l1, .inl (w32 (x + 1))] [] h Q := wp_step dX4_rowOfTick_24 (fun _ => rfl)
theorem s38_27  : wp 38 27 [l0, l1, l2] [] h Q ↔ wp 38 2 [l0, l1, l2] [] h Q := w_goto dX4_rowOfTick_27 (by decide)
theorem s38_30  : wp 38 30 [l0, l1, l2] [] h Q ↔ wp 38 32 [l0, l1, l2] [.inl (-5)] h Q := w_const2 dX4_rowOfTick_30 k_m5 k8_m5
theorem s38_32  : wp 38 32 [l0, l1, l2] [.inl x] h Q ↔ Q (some (.inl x)) h := w_reti dX4_rowOfTick_32 (e_ri (by decide +kernel))
theorem s39_0 (h0 : a ≠ 0) : wp 39 0 [.inr (.inl a), l1] [] h Q ↔ wp 39 1 [.inr (.inl a), l1] [.inr (.inl a)] h Q := wp_step dX4_hasRoomFor_0 (fun _ => if_neg h0)
theorem s39_1 (ha : tg a = 4) : wp 39 1 [l0, l1] [.inr (.inl a)] (hp S D) Q ↔ wp 39 4 [l0, l1] [.inl (D a 3)] (hp S D) Q := w_getI dX4_hasRoomFor_1 (t := 4) (j := 3) (c := 0) (by decide +kernel) (by decide) rfl (ln_ok (by decide) (by decide)) ha
theorem s39_4  : wp 39 4 [l0, l1] [v0] h Q ↔ wp 39 6 [l0, l1] [.inl 10, v0] h Q := w_const2 dX4_hasRoomFor_4 k_10 k8_10
theorem s39_6  : wp 39 6 [l0, l1] [.inl z, .inl x] h Q ↔ if x < z then wp 39 19 [l0, l1] [] h Q else wp 39 9 [l0, l1] [] h Q := w_clt dX4_hasRoomFor_6 (by decide)
theorem s39_9 (h0 : a ≠ 0) : wp 39 9 [.inr (.inl a), l1] [] h Q ↔ wp 39 10 [.inr (.inl a), l1] [.inr (.inl a)] h Q := wp_step dX4_hasRoomFor_9 (fun _ => if_neg h0)
theorem s39_10  : wp 39 10 [l0, .inl x] [v0] h Q ↔ wp 39 11 [l0, .inl x] [.inl x, v0] h Q := wp_step dX4_hasRoomFor_10 (fun _ => rfl)
theorem s39_11 (ha : tg a = 4) : wp 39 11 [l0, l1] [.inl x0, .inr (.inl a)] (hp S D) Q ↔ wp 38 0 [.inr (.inl a), .inl x0, .inr (.inl 0)] [] (hp S D) (kont 39 14 [l0, l1] [] Q) := w_callV (y2 := 38) (vs := [.inl x0]) (st := []) dX4_hasRoomFor_11 (by decide +kernel) rfl (by decide +kernel) (Nat.le_of_ble_eq_true rfl) (eSm_4 (by simp)) 4 rfl (by decide) ha
theorem s39_14  : wp 39 14 [l0, l1] [v0] h Q ↔ wp 39 16 [l0, l1] [.inl (-5), v0] h Q := w_const2 dX4_hasRoomFor_14 k_m5 k8_m5
theorem s39_16  : wp 39 16 [l0, l1] [.inl z, .inl x] h Q ↔ if x = z then wp 39 23 [l0, l1] [] h Q else wp 39 19 [l0, l1] [] h Q := w_ceq dX4_hasRoomFor_16 (by decide)
theorem s39_19  : wp 39 19 [l0, l1] [] h Q ↔ wp 39 20 [l0, l1] [.inl 1] h Q := w_const1 dX4_hasRoomFor_19 k_1
theorem s39_20  : wp 39 20 [l0, l1] [v0] h Q ↔ wp 39 24 [l0, l1] [v0] h Q := w_goto dX4_hasRoomFor_20 (by decide)
theorem s39_23  : wp 39 23 [l0, l1] [] h Q ↔ wp 39 24 [l0, l1] [.inl 0] h Q := w_const1 dX4_hasRoomFor_23 k_0
theorem s39_24 (h0 : x = 0 ∨ x = 1) : wp 39 24 [l0, l1] [.inl x] h Q ↔ Q (some (.inl x)) h := w_reti dX4_hasRoomFor_24 (e_rz (by decide +kernel) h0)
theorem s40_0 (h0 : a ≠ 0) : wp 40 0 [.inr (.inl a), l1, l2, l3, l4] [] h Q ↔ wp 40 1 [.inr (.inl a), l1, l2, l3, l4] [.inr (.inl a)] h Q := wp_step dX4_enter_0 (fun _ => if_neg h0)
theorem s40_1  : wp 40 1 [l0, .inl x, l2, l3, l4] [v0] h Q ↔ wp 40 2 [l0, .inl x, l2, l3, l4] [.inl x, v0] h Q := wp_step dX4_enter_1 (fun _ => rfl)
theorem s40_2 (ha : tg a = 4) : wp 40 2 [l0, l1, l2, l3, l4] [.inl x0, .inr (.inl a)] (hp S D) Q ↔ wp 38 0 [.inr (.inl a), .inl x0, .inr (.inl 0)] [] (hp S D) (kont 40 5 [l0, l1, l2, l3, l4] [] Q) := w_callV (y2 := 38) (vs := [.inl x0]) (st := []) dX4_enter_2 (by decide +kernel) rfl (by decide +kernel) (Nat.le_of_ble_eq_true rfl) (eSm_4 (by simp)) 4 rfl (by decide) ha
theorem s40_5  : wp 40 5 [l0, l1, l2, l3, l4] [.inl x] h Q ↔ wp 40 7 [l0, l1, l2, l3, .inl x] [] h Q := wp_step dX4_enter_5 (fun _ => rfl)
theorem s40_7  : wp 40 7 [l0, l1, l2, l3, .inl x] [] h Q ↔ wp 40 9 [l0, l1, l2, l3, .inl x] [.inl x] h Q := wp_step dX4_enter_7 (fun _ => rfl)
theorem s40_9  : wp 40 9 [l0, l1, l2, l3, l4] [v0] h Q ↔ wp 40 11 [l0, l1, l2, l3, l4] [.inl (-5), v0] h Q := w_const2 dX4_enter_9 k_m5 k8_m5
theorem s40_11  : wp 40 11 [l0, l1, l2, l3, l4] [.inl z, .inl x] h Q ↔ if x = z then wp 40 14 [l0, l1, l2, l3, l4] [] h Q else wp 40 30 [l0, l1, l2, l3, l4] [] h Q := w_cne dX4_enter_11 (by decide)
theorem s40_14 (h0 : a ≠ 0) : wp 40 14 [.inr (.inl a), l1, l2, l3, l4] [] h Q ↔ wp 40 15 [.inr (.inl a), l1, l2, l3, l4] [.inr (.inl a)] h Q := wp_step dX4_enter_14 (fun _ => if_neg h0)
theorem s40_15 (ha : tg a = 4) : wp 40 15 [l0, l1, l2, l3, l4] [.inr (.inl a)] (hp S D) Q ↔ wp 40 18 [l0, l1, l2, l3, l4] [.inl (D a 3)] (hp S D) Q := w_getI dX4_enter_15 (t := 4) (j := 3) (c := 0) (by decide +kernel) (by decide) rfl (ln_ok (by decide) (by decide)) ha
theorem s40_18  : wp 40 18 [l0, l1, l2, l3, l4] [.inl x] h Q ↔ wp 40 20 [l0, l1, l2, l3, .inl x] [] h Q := wp_step dX4_enter_18 (fun _ => rfl)
theorem s40_20 (h0 : a ≠ 0) : wp 40 20 [.inr (.inl a), l1, l2, l3, l4] [] h Q ↔ wp 40 21 [.inr (.inl a), l1, l2, l3, l4] [.inr (.inl a)] h Q := wp_step dX4_enter_20 (fun _ => if_neg h0)
theorem s40_21  : wp 40 21 [l0, l1, l2, l3, l4] [.inr (.inl a0)] h Q ↔ wp 40 22 [l0, l1, l2, l3, l4] [.inr (.inl a0), .inr (.inl a0)] h Q := wp_step dX4_enter_21 (fun _ => rfl)
theorem s40_22 (ha : tg a = 4) : wp 40 22 [l0, l1, l2, l3, l4] [.inr (.inl a), v0] (hp S D) Q ↔ wp 40 25 [l0, l1, l2, l3, l4] [.inl (D a 3), v0] (hp S D) Q := w_getI dX4_enter_22 (t := 4) (j := 3) (c := 0) (by decide +kernel) (by decide) rfl (ln_ok (by decide) (by decide)) ha
theorem s40_25  : wp 40 25 [l0, l1, l2, l3, l4] [v0, v1] h Q ↔ wp 40 26 [l0, l1, l2, l3, l4] [.inl 1, v0, v1] h Q := w_const1 dX4_enter_25 k_1
theorem s40_26  : wp 40 26 [l0, l1, l2, l3, l4] [.inl z, .inl x, v0] h Q ↔ wp 40 27 [l0, l1, l2, l3, l4] [.inl (w32 (x + z)), v0] h Q := wp_step dX4_enter_26 (fun _ => rfl)
theorem s40_27 (ha : tg a = 4) : wp 40 27 [l0, l1, l2, l3, l4] [.inl z, .inr (.inl a)] (hp S D) Q ↔ wp 40 30 [l0, l1, l2, l3, l4] [] (hp S (up D a 3 z)) Q := w_put dX4_enter_27 (t := 4) (j := 3) (c := 0) (by decide +kernel) (by decide +kernel) (by decide) rfl (ln_ok (by decide) (by decide)) (Or.inl rfl) ha
theorem s40_30 (h0 : a ≠ 0) : wp 40 30 [.inr (.inl a), l1, l2, l3, l4] [] h Q ↔ wp 40 31 [.inr (.inl a), l1, l2, l3, l4] [.inr (.inl a)] h Q := wp_step dX4_enter_30 (fun _ => if_neg h0)
theorem s40_31 (ha : tg a = 4) : wp 40 31 [l0, l1, l2, l3, l4] [.inr (.inl a)] (hp S D) Q ↔ wp 40 34 [l0, l1, l2, l3, l4] [.inr (.inl (a + 1))] (hp S D) Q := w_getR dX4_enter_31 (t := 4) (j := 0) (c := 2) (by decide +kernel) (by decide) rfl (ln_ok (by decide) (by decide)) ha
theorem s40_34  : wp 40 34 [l0, l1, l2, l3, .inl x] [v0] h Q ↔ wp 40 36 [l0, l1, l2, l3, .inl x] [.inl x, v0] h Q := wp_step dX4_enter_34 (fun _ => rfl)
theorem s40_36  : wp 40 36 [l0, .inl x, l2, l3, l4] [v0, v1] h Q ↔ wp 40 37 [l0, .inl x, l2, l3, l4] [.inl x, v0, v1] h Q := wp_step dX4_enter_36 (fun _ => rfl)
theorem s40_37  : wp 40 37 [l0, l1, l2, l3, l4] [.inl x2, .inl x1, .inr (.inl a0)] h Q ↔ wp 52 0 [.inr (.inl a0), .inl x1, .inl x2] [] h (kont 40 40 [l0, l1, l2, l3, l4] [] Q) := w_callS (y2 := 52) (kd := 0) (vs := [.inr (.inl a0), .inl x1, .inl x2]) (st := []) dX4_enter_37 (by decide +kernel) (by decide) rfl (by decide +kernel) (Nat.le_of_ble_eq_true rfl) (eSm_4 (by simp))
theorem s40_40 (h0 : a ≠ 0) : wp 40 40 [.inr (.inl a), l1, l2, l3, l4] [] h Q ↔ wp 40 41 [.inr (.inl a), l1, l2, l3, l4] [.inr (.inl a)] h Q := wp_step dX4_enter_40 (fun _ => if_neg h0)
theorem s40_41 (ha : tg a = 4) : wp 40 41 [l0, l1, l2, l3, l4] [.inr (.inl a)] (hp S D) Q ↔ wp 40 44 [l0, l1, l2, l3, l4] [.inr (.inl (a + 2))] (hp S D) Q := w_getR dX4_enter_41 (t := 4) (j := 1) (c := 2) (by decide +kernel) (by decide) rfl (ln_ok (by decide) (by decide)) ha
theorem s40_44  : wp 40 44 [l0, l1, l2, l3, .inl x] [v0] h Q ↔ wp 40 46 [l0, l1, l2, l3, .inl x] [.inl x, v0] h Q := wp_step dX4_enter_44 (fun _ => rfl)
theorem s40_46  : wp 40 46 [l0, l1, .inl x, l3, l4] [v0, v1] h Q ↔ wp 40 47 [l0, l1, .inl x, l3, l4] [.inl x, v0, v1] h Q := wp_step dX4_enter_46 (fun _ => rfl)
theorem s40_47  : wp 40 47 [l0, l1, l2, l3, l4] [.inl x2, .inl x1, .inr (.inl a0)] h Q ↔ wp 52 0 [.inr (.inl a0), .inl x1, .inl x2] [] h (kont 40 50 [l0, l1, l2, l3, l4] [] Q) := w_callS (y2 := 52) (kd := 0) (vs := [.inr (.inl a0), .inl x1, .inl x2]) (st := []) dX4_enter_47 (by decide +kernel) (by decide) rfl (by decide +kernel) (Nat.le_of_ble_eq_true rfl) (eSm_4 (by simp))
theorem s40_50 (h0 : a ≠ 0) : wp 40 50 [.inr (.inl a), l1, l2, l3, l4] [] h Q ↔ wp 40 51 [.inr (.inl a), l1, l2, l3, l4] [.inr (.inl a)] h Q := wp_step dX4_enter_50 (fun _ => if_neg h0)
theorem s40_51 (ha : tg a = 4) : wp 40 51 [l0, l1, l2, l3, l4] [.inr (.inl a)] (hp S D) Q ↔ wp 40 54 [l0, l1, l2, l3, l4] [.inr (.inl (a + 3))] (hp S D) Q := w_getR dX4_enter_51 (t := 4) (j := 2) (c := 2) (by decide +kernel) (by decide) rfl (ln_ok (by decide) (by decide)) ha
theorem s40_54  : wp 40 54 [l0, l1, l2, l3, .inl x] [v0] h Q ↔ wp 40 56 [l0, l1, l2, l3, .inl x] [.inl x, v0] h Q := wp_step dX4_enter_54 (fun _ => rfl)
theorem s40_56  : wp 40 56 [l0, l1, l2, .inl x, l4] [v0, v1] h Q ↔ wp 40 57 [l0, l1, l2, .inl x, l4] [.inl x, v0, v1] h Q := wp_step dX4_enter_56 (fun _ => rfl)
theorem s40_57  : wp 40 57 [l0, l1, l2, l3, l4] [.inl x2, .inl x1, .inr (.inl a0)] h Q ↔ wp 52 0 [.inr (.inl a0), .inl x1, .inl x2] [] h (kont 40 60 [l0, l1, l2, l3, l4] [] Q) := w_callS (y2 := 52) (kd := 0) (vs := [.inr (.inl a0), .inl x1, .inl x2]) (st := []) dX4_enter_57 (by decide +kernel) (by decide) rfl (by decide +kernel) (Nat.le_of_ble_eq_true rfl) (eSm_4 (by simp))
theorem s40_60  : wp 40 60 [l0, l1, l2, l3, l4] [] h Q ↔ Q none h := w_retv dX4_enter_60 (by decide +kernel)
theorem s41_0  : wp 41 0 [l0, l1, l2] [] h Q ↔ wp 41 1 [l0, l1, l2] [.inl 0] h Q := w_const1 dX4_rowOfPlace_0 k_0
theorem s41_1  : wp 41 1 [l0, l1, l2] [.inl x] h Q ↔ wp 41 2 [l0, l1, .inl x] [] h Q := wp_step dX4_rowOfPlace_1 (fun _ => rfl)
theorem s41_2  : wp 41 2 [l0, l1, .inl x] [] h Q ↔ wp 41 3 [l0, l1, .inl x] [.inl x] h Q := wp_step dX4_rowOfPlace_2 (fun _ => rfl)
theorem s41_3 (h0 : a ≠ 0) : wp 41 3 [.inr (.inl a), l1, l2] [v0] h Q ↔ wp 41 4 [.inr (.inl a), l1, l2] [.inr (.inl a), v0] h Q := wp_step dX4_rowOfPlace_3 (fun _ => if_neg h0)
theorem s41_4 (ha : tg a = 4) : wp 41 4 [l0, l1, l2] [.inr (.inl a), v0] (hp S D) Q ↔ wp 41 7 [l0, l1, l2] [.inl (D a 3), v0] (hp S D) Q := w_getI dX4_rowOfPlace_4 (t := 4) (j := 3) (c := 0) (by decide +kernel) (by decide) rfl (ln_ok (by decide) (by decide)) ha
theorem s41_7  : wp 41 7 [l0, l1, l2] [.inl z, .inl x] h Q ↔ if x < z then wp 41 10 [l0, l1, l2] [] h Q else wp 41 34 [l0, l1, l2] [] h Q := w_cge dX4_rowOfPlace_7 (by decide)
theorem s41_10 (h0 : a ≠ 0) : wp 41 10 [.inr (.inl a), l1, l2] [] h Q ↔ wp 41 11 [.inr (.inl a), l1, l2] [.inr (.inl a)] h Q := wp_step dX4_rowOfPlace_10 (fun _ => if_neg h0)
theorem s41_11 (h0 : a ≠ 0) : wp 41 11 [.inr (.inl a), l1, l2] [v0] h Q ↔ wp 41 12 [.inr (.inl a), l1, l2] [.inr (.inl a), v0] h Q := wp_step dX4_rowOfPlace_11 (fun _ => if_neg h0)
theorem s41_12 (ha : tg a = 4) : wp 41 12 [l0, l1, l2] [.inr (.inl a), v0] (hp S D) Q ↔ wp 41 15 [l0, l1, l2] [.inr (.inl (a + 1)), v0] (hp S D) Q := w_getR dX4_rowOfPlace_12 (t := 4) (j := 0) (c := 2) (by decide +kernel) (by decide) rfl (ln_ok (by decide) (by decide)) ha
theorem s41_15  : wp 41 15 [l0, l1, .inl x] [v0, v1] h Q ↔ wp 41 16 [l0, l1, .inl x] [.inl x, v0, v1] h Q := wp_step dX4_rowOfPlace_15 (fun _ => rfl)
theorem s41_16  : wp 41 16 [l0, l1, l2] [.inl x1, .inr (.inl a0), v0] h Q ↔ wp 51 0 [.inr (.inl a0), .inl x1] [] h (kont 41 19 [l0, l1, l2] [v0] Q) := w_callS (y2 := 51) (kd := 0) (vs := [.inr (.inl a0), .inl x1]) (st := [v0]) dX4_rowOfPlace_16 (by decide +kernel) (by decide) rfl (by decide +kernel) (Nat.le_of_ble_eq_true rfl) (eSm_4 (by simp))
theorem s41_19 (ha : tg a = 4) : wp 41 19 [l0, l1, l2] [.inl x0, .inr (.inl a)] (hp S D) Q ↔ wp 42 0 [.inr (.inl a), .inl x0, .inr (.inl 0), .inr (.inl 0)] [] (hp S D) (kont 41 22 [l0, l1, l2] [] Q) := w_callV (y2 := 42) (vs := [.inl x0]) (st := []) dX4_rowOfPlace_19 (by decide +kernel) rfl (by decide +kernel) (Nat.le_of_ble_eq_true rfl) (eSm_4 (by simp)) 4 rfl (by decide) ha
theorem s41_22  : wp 41 22 [l0, .inl x, l2] [v0] h Q ↔ wp 41 23 [l0, .inl x, l2] [.inl x, v0] h Q := wp_step dX4_rowOfPlace_22 (fun _ => rfl)
theorem s41_23  : wp 41 23 [l0, l1, l2] [.inl z, .inl x] h Q ↔ if x = z then wp 41 26 [l0, l1, l2] [] h Q else wp 41 28 [l0, l1, l2] [] h Q := w_cne dX4_rowOfPlace_23 (by decide)
theorem s41_26  : wp 41 26 [l0, l1, .inl x] [] h Q ↔ wp 41 27 [l0, l1, .inl x] [.inl x] h Q := wp_step dX4_rowOfPlace_26 (fun _ => rfl)
theorem s41_27  : wp 41 27 [l0, l1, l2] [.inl x] h Q ↔ Q (some (.inl x)) h := w_reti dX4_rowOfPlace_27 (e_ri (by decide +kernel))
theorem s41_28  : wp 41 28 [l0, l1, .inl x] [] h Q ↔ wp 41 31 [l0, l1, .inl (w32 (x + 1))] [] h Q := wp_step dX4_rowOfPlace_28 (fun _ => rfl)
theorem s41_31  : wp 41 31 [l0, l1, l2] [] h Q ↔ wp 41 2 [l0, l1, l2] [] h Q := w_goto dX4_rowOfPlace_31 (by decide)
theorem s41_34  : wp 41 34 [l0, l1, l2] [] h Q ↔ wp 41 36 [l0, l1, l2] [.inl (-5)] h Q := w_const2 dX4_rowOfPlace_34 k_m5 k8_m5
theorem s41_36  : wp 41 36 [l0, l1, l2] [.inl x] h Q ↔ Q (some (.inl x)) h := w_reti dX4_rowOfPlace_36 (e_ri (by decide +kernel))
theorem s42_0  : wp 42 0 [l0, l1, l2, l3] [] h Q ↔ wp 42 1 [l0, l1, l2, l3] [.inl 0] h Q := w_const1 dX4_boatsAheadOf_0 k_0
theorem s42_1  : wp 42 1 [l0, l1, l2, l3] [.inl x] h Q ↔ wp 42 2 [l0, l1, .inl x, l3] [] h Q := wp_step dX4_boatsAheadOf_1 (fun _ => rfl)
theorem s42_2  : wp 42 2 [l0, l1, l2, l3] [] h Q ↔ wp 42 3 [l0, l1, l2, l3] [.inl 0] h Q := w_const1 dX4_boatsAheadOf_2 k_0
theorem s42_3  : wp 42 3 [l0, l1, l2, l3] [.inl x] h Q ↔ wp 42 4 [l0, l1, l2, .inl x] [] h Q := wp_step dX4_boatsAheadOf_3 (fun _ => rfl)
theorem s42_4  : wp 42 4 [l0, l1, l2, .inl x] [] h Q ↔ wp 42 5 [l0, l1, l2, .inl x] [.inl x] h Q := wp_step dX4_boatsAheadOf_4 (fun _ => rfl)
theorem s42_5 (h0 : a ≠ 0) : wp 42 5 [.inr (.inl a), l1, l2, l3] [v0] h Q ↔ wp 42 6 [.inr (.inl a), l1, l2, l3] [.inr (.inl a), v0] h Q := wp_step dX4_boatsAheadOf_5 (fun _ => if_neg h0)
theorem s42_6 (ha : tg a = 4) : wp 42 6 [l0, l1, l2, l3] [.inr (.inl a), v0] (hp S D) Q ↔ wp 42 9 [l0, l1, l2, l3] [.inl (D a 3), v0] (hp S D) Q := w_getI dX4_boatsAheadOf_6 (t := 4) (j := 3) (c := 0) (by decide +kernel) (by decide) rfl (ln_ok (by decide) (by decide)) ha
theorem s42_9  : wp 42 9 [l0, l1, l2, l3] [.inl z, .inl x] h Q ↔ if x < z then wp 42 12 [l0, l1, l2, l3] [] h Q else wp 42 41 [l0, l1, l2, l3] [] h Q := w_cge dX4_boatsAheadOf_9 (by decide)
theorem s42_12  : wp 42 12 [l0, l1, .inl x, l3] [] h Q ↔ wp 42 13 [l0, l1, .inl x, l3] [.inl x] h Q := wp_step dX4_boatsAheadOf_12 (fun _ => rfl)
theorem s42_13 (h0 : a ≠ 0) : wp 42 13 [.inr (.inl a), l1, l2, l3] [v0] h Q ↔ wp 42 14 [.inr (.inl a), l1, l2, l3] [.inr (.inl a), v0] h Q := wp_step dX4_boatsAheadOf_13 (fun _ => if_neg h0)
theorem s42_14 (ha : tg a = 4) : wp 42 14 [l0, l1, l2, l3] [.inr (.inl a), v0] (hp S D) Q ↔ wp 42 17 [l0, l1, l2, l3] [.inr (.inl (a + 1)), v0] (hp S D) Q := w_getR dX4_boatsAheadOf_14 (t := 4) (j := 0) (c := 2) (by decide +kernel) (by decide) rfl (ln_ok (by decide) (by decide)) ha
theorem s42_17  : wp 42 17 [l0, l1, l2, .inl x] [v0, v1] h Q ↔ wp 42 18 [l0, l1, l2, .inl x] [.inl x, v0, v1] h Q := wp_step dX4_boatsAheadOf_17 (fun _ => rfl)
theorem s42_18  : wp 42 18 [l0, l1, l2, l3] [.inl x1, .inr (.inl a0), v0] h Q ↔ wp 51 0 [.inr (.inl a0), .inl x1] [] h (kont 42 21 [l0, l1, l2, l3] [v0] Q) := w_callS (y2 := 51) (kd := 0) (vs := [.inr (.inl a0), .inl x1]) (st := [v0]) dX4_boatsAheadOf_18 (by decide +kernel) (by decide) rfl (by decide +kernel) (Nat.le_of_ble_eq_true rfl) (eSm_4 (by simp))
theorem s42_21  : wp 42 21 [l0, .inl x, l2, l3] [v0, v1] h Q ↔ wp 42 22 [l0, .inl x, l2, l3] [.inl x, v0, v1] h Q := wp_step dX4_boatsAheadOf_21 (fun _ => rfl)
theorem s42_22  : wp 42 22 [l0, l1, l2, l3] [.inl z, .inl x, v0] h Q ↔ if x < z then wp 42 25 [l0, l1, l2, l3] [v0] h Q else wp 42 29 [l0, l1, l2, l3] [v0] h Q := w_cge dX4_boatsAheadOf_22 (by decide)
theorem s42_25  : wp 42 25 [l0, l1, l2, l3] [v0] h Q ↔ wp 42 26 [l0, l1, l2, l3] [.inl 1, v0] h Q := w_const1 dX4_boatsAheadOf_25 k_1
theorem s42_26  : wp 42 26 [l0, l1, l2, l3] [v0, v1] h Q ↔ wp 42 30 [l0, l1, l2, l3] [v0, v1] h Q := w_goto dX4_boatsAheadOf_26 (by decide)
theorem s42_29  : wp 42 29 [l0, l1, l2, l3] [v0] h Q ↔ wp 42 30 [l0, l1, l2, l3] [.inl 0, v0] h Q := w_const1 dX4_boatsAheadOf_29 k_0
theorem s42_30  : wp 42 30 [l0, l1, l2, l3] [.inl x0, v0] h Q ↔ wp 97 0 [.inl x0] [] h (kont 42 33 [l0, l1, l2, l3] [v0] Q) := w_callS (y2 := 97) (kd := 3) (vs := [.inl x0]) (st := [v0]) dX4_boatsAheadOf_30 (by decide +kernel) (by decide) rfl (by decide +kernel) (Nat.le_of_ble_eq_true rfl) (eSm_4 (by simp))
theorem s42_33  : wp 42 33 [l0, l1, l2, l3] [.inl z, .inl x] h Q ↔ wp 42 34 [l0, l1, l2, l3] [.inl (w32 (x + z))] h Q := wp_step dX4_boatsAheadOf_33 (fun _ => rfl)
theorem s42_34  : wp 42 34 [l0, l1, l2, l3] [.inl x] h Q ↔ wp 42 35 [l0, l1, .inl x, l3] [] h Q := wp_step dX4_boatsAheadOf_34 (fun _ => rfl)
theorem s42_35  : wp 42 35 [l0, l1, l2, .inl x] [] h Q ↔ wp 42 38 [l0, l1, l2, .inl (w32 (x + 1))] [] h Q := wp_step dX4_boatsAheadOf_35 (fun _ => rfl)
theorem s42_38  : wp 42 38 [l0, l1, l2, l3] [] h Q ↔ wp 42 4 [l0, l1, l2, l3] [] h Q := w_goto dX4_boatsAheadOf_38 (by decide)
theorem s42_41  : wp 42 41 [l0, l1, .inl x, l3] [] h Q ↔ wp 42 42 [l0, l1, .inl x, l3] [.inl x] h Q := wp_step dX4_boatsAheadOf_41 (fun _ => rfl)
theorem s42_42  : wp 42 42 [l0, l1, l2, l3] [.inl x] h Q ↔ Q (some (.inl x)) h := w_reti dX4_boatsAheadOf_42 (e_ri (by decide +kernel))
theorem s43_0 (h0 : a ≠ 0) : wp 43 0 [.inr (.inl a)] [] h Q ↔ wp 43 1 [.inr (.inl a)] [.inr (.inl a)] h Q := wp_step dX5_init_0 (fun _ => if_neg h0)
theorem s43_1 (h8 : 8 ≤ a) : wp 43 1 [l0] [.inr (.inl a)] h Q ↔ wp 43 4 [l0] [] h Q := w_callO dX5_init_1 (y2 := 0) (by decide +kernel) ⟨eSm_4 (by simp), by decide +kernel, by decide +kernel⟩ h8
theorem s43_4 (h0 : a ≠ 0) : wp 43 4 [.inr (.inl a)] [] h Q ↔ wp 43 5 [.inr (.inl a)] [.inr (.inl a)] h Q := wp_step dX5_init_4 (fun _ => if_neg h0)
theorem s43_5  : wp 43 5 [l0] [v0] h Q ↔ wp 43 7 [l0] [.inl 60, v0] h Q := w_const2 dX5_init_5 k_60 k8_60
theorem s43_12  : wp 43 12 [l0] [] h Q ↔ Q none h := w_retv dX5_init_12 (by decide +kernel)
theorem s44_0 (h0 : a ≠ 0) : wp 44 0 [.inr (.inl a), l1] [] h Q ↔ wp 44 1 [.inr (.inl a), l1] [.inr (.inl a)] h Q := wp_step dX5_add_0 (fun _ => if_neg h0)
theorem s44_1 (ha : tg a = 5) : wp 44 1 [l0, l1] [.inr (.inl a)] (hp S D) Q ↔ wp 44 4 [l0, l1] [.inl (D a 1)] (hp S D) Q := w_getI dX5_add_1 (t := 5) (j := 1) (c := 0) (by decide +kernel) (by decide) rfl (ln_ok (by decide) (by decide)) ha
theorem s44_4  : wp 44 4 [l0, l1] [.inl x] h Q ↔ if x < 0 then wp 44 19 [l0, l1] [] h Q else wp 44 7 [l0, l1] [] h Q := w_lt0 dX5_add_4 (by decide)
theorem s44_7 (h0 : a ≠ 0) : wp 44 7 [.inr (.inl a), l1] [] h Q ↔ wp 44 8 [.inr (.inl a), l1] [.inr (.inl a)] h Q := wp_step dX5_add_7 (fun _ => if_neg h0)
theorem s44_8 (ha : tg a = 5) : wp 44 8 [l0, l1] [.inr (.inl a)] (hp S D) Q ↔ wp 44 11 [l0, l1] [.inl (D a 1)] (hp S D) Q := w_getI dX5_add_8 (t := 5) (j := 1) (c := 0) (by decide +kernel) (by decide) rfl (ln_ok (by decide) (by decide)) ha
theorem s44_11 (h0 : a ≠ 0) : wp 44 11 [.inr (.inl a), l1] [v0] h Q ↔ wp 44 12 [.inr (.inl a), l1] [.inr (.inl a), v0] h Q := wp_step dX5_add_11 (fun _ => if_neg h0)
theorem s44_12 (ha : tg a = 5) : wp 44 12 [l0, l1] [.inr (.inl a), v0] (hp S D) Q ↔ wp 44 15 [l0, l1] [.inr (.inl (a + 1)), v0] (hp S D) Q := w_getR dX5_add_12 (t := 5) (j := 0) (c := 2) (by decide +kernel) (by decide) rfl (ln_ok (by decide) (by decide)) ha
theorem s44_15 (ha : tg a = 101) (hS : S.length ≤ 2048) : wp 44 15 [l0, l1] [.inr (.inl a), v0] (hp S D) Q ↔ wp 44 16 [l0, l1] [.inl (ln S a), v0] (hp S D) Q := w_len dX5_add_15 (by simp [ha]) (ln_lt hS a)
theorem s44_16  : wp 44 16 [l0, l1] [.inl z, .inl x] h Q ↔ if x < z then wp 44 21 [l0, l1] [] h Q else wp 44 19 [l0, l1] [] h Q := w_clt dX5_add_16 (by decide)
theorem s44_19  : wp 44 19 [l0, l1] [] h Q ↔ wp 44 20 [l0, l1] [.inl 0] h Q := w_const1 dX5_add_19 k_0
theorem s44_20 (h0 : x = 0 ∨ x = 1) : wp 44 20 [l0, l1] [.inl x] h Q ↔ Q (some (.inl x)) h := w_reti dX5_add_20 (e_rz (by decide +kernel) h0)
theorem s44_21 (h0 : a ≠ 0) : wp 44 21 [.inr (.inl a), l1] [] h Q ↔ wp 44 22 [.inr (.inl a), l1] [.inr (.inl a)] h Q := wp_step dX5_add_21 (fun _ => if_neg h0)
theorem s44_22 (ha : tg a = 5) : wp 44 22 [l0, l1] [.inr (.inl a)] (hp S D) Q ↔ wp 44 25 [l0, l1] [.inr (.inl (a + 1))] (hp S D) Q := w_getR dX5_add_22 (t := 5) (j := 0) (c := 2) (by decide +kernel) (by decide) rfl (ln_ok (by decide) (by decide)) ha
theorem s44_25 (h0 : a ≠ 0) : wp 44 25 [.inr (.inl a), l1] [v0] h Q ↔ wp 44 26 [.inr (.inl a), l1] [.inr (.inl a), v0] h Q := wp_step dX5_add_25 (fun _ => if_neg h0)
theorem s44_26 (ha : tg a = 5) : wp 44 26 [l0, l1] [.inr (.inl a), v0] (hp S D) Q ↔ wp 44 29 [l0, l1] [.inl (D a 1), v0] (hp S D) Q := w_getI dX5_add_26 (t := 5) (j := 1) (c := 0) (by decide +kernel) (by decide) rfl (ln_ok (by decide) (by decide)) ha
theorem s44_29  : wp 44 29 [l0, .inl x] [v0, v1] h Q ↔ wp 44 30 [l0, .inl x] [.inl x, v0, v1] h Q := wp_step dX5_add_29 (fun _ => rfl)
theorem s44_30 (ha : tg a = 101) (h0 : 0 ≤ x) (h1 : x < ln S a) (hv : 0 ≤ z ∧ z < 65536) : wp 44 30 [l0, l1] [.inl z, .inl x, .inr (.inl a)] (hp S D) Q ↔ wp 44 31 [l0, l1] [] (hp S (up D a x.toNat z)) Q := w_cast dX5_add_30 ha h0 h1 hv
theorem s44_31 (h0 : a ≠ 0) : wp 44 31 [.inr (.inl a), l1] [] h Q ↔ wp 44 32 [.inr (.inl a), l1] [.inr (.inl a)] h Q := wp_step dX5_add_31 (fun _ => if_neg h0)
theorem s44_32  : wp 44 32 [l0, l1] [.inr (.inl a0)] h Q ↔ wp 44 33 [l0, l1] [.inr (.inl a0), .inr (.inl a0)] h Q := wp_step dX5_add_32 (fun _ => rfl)
theorem s44_33 (ha : tg a = 5) : wp 44 33 [l0, l1] [.inr (.inl a), v0] (hp S D) Q ↔ wp 44 36 [l0, l1] [.inl (D a 1), v0] (hp S D) Q := w_getI dX5_add_33 (t := 5) (j := 1) (c := 0) (by decide +kernel) (by decide) rfl (ln_ok (by decide) (by decide)) ha
theorem s44_36  : wp 44 36 [l0, l1] [v0, v1] h Q ↔ wp 44 37 [l0, l1] [.inl 1, v0, v1] h Q := w_const1 dX5_add_36 k_1
theorem s44_37  : wp 44 37 [l0, l1] [.inl z, .inl x, v0] h Q ↔ wp 44 38 [l0, l1] [.inl (w32 (x + z)), v0] h Q := wp_step dX5_add_37 (fun _ => rfl)
theorem s44_38 (ha : tg a = 5) : wp 44 38 [l0, l1] [.inl z, .inr (.inl a)] (hp S D) Q ↔ wp 44 41 [l0, l1] [] (hp S (up D a 1 z)) Q := w_put dX5_add_38 (t := 5) (j := 1) (c := 0) (by decide +kernel) (by decide +kernel) (by decide) rfl (ln_ok (by decide) (by decide)) (Or.inl rfl) ha
theorem s44_41  : wp 44 41 [l0, l1] [] h Q ↔ wp 44 42 [l0, l1] [.inl 1] h Q := w_const1 dX5_add_41 k_1
theorem s44_42 (h0 : x = 0 ∨ x = 1) : wp 44 42 [l0, l1] [.inl x] h Q ↔ Q (some (.inl x)) h := w_reti dX5_add_42 (e_rz (by decide +kernel) h0)
theorem s45_0 (h0 : a ≠ 0) : wp 45 0 [l0, .inr (.inl a), l2] [] h Q ↔ wp 45 1 [l0, .inr (.inl a), l2] [.inr (.inl a)] h Q := wp_step dX5_readInto_0 (fun _ => if_neg h0)
theorem s45_1 (ha : tg a = 4) : wp 45 1 [l0, l1, l2] [.inr (.inl a)] (hp S D) Q ↔ wp 37 0 [.inr (.inl a)] [] (hp S D) (kont 45 4 [l0, l1, l2] [] Q) := w_callV (y2 := 37) (vs := []) (st := []) dX5_readInto_1 (by decide +kernel) rfl (by decide +kernel) (Nat.le_of_ble_eq_true rfl) (eSm_4 (by simp)) 4 rfl (by decide) ha
theorem s45_4 (h0 : a ≠ 0) : wp 45 4 [.inr (.inl a), l1, l2] [] h Q ↔ wp 45 5 [.inr (.inl a), l1, l2] [.inr (.inl a)] h Q := wp_step dX5_readInto_4 (fun _ => if_neg h0)
theorem s45_5  : wp 45 5 [l0, l1, l2] [v0] h Q ↔ wp 45 6 [l0, l1, l2] [.inl 0, v0] h Q := w_const1 dX5_readInto_5 k_0
theorem s45_6 (ha : tg a = 5) (hv : z = 0 ∨ z = 1) : wp 45 6 [l0, l1, l2] [.inl z, .inr (.inl a)] (hp S D) Q ↔ wp 45 9 [l0, l1, l2] [] (hp S (up D a 2 z)) Q := w_put dX5_readInto_6 (t := 5) (j := 2) (c := 1) (by decide +kernel) (by decide +kernel) (by decide) rfl (ln_ok (by decide) (by decide)) (Or.inr ⟨rfl, hv⟩) ha
theorem s45_9 (h0 : a ≠ 0) : wp 45 9 [.inr (.inl a), l1, l2] [] h Q ↔ wp 45 10 [.inr (.inl a), l1, l2] [.inr (.inl a)] h Q := wp_step dX5_readInto_9 (fun _ => if_neg h0)
theorem s45_10 (ha : tg a = 5) : wp 45 10 [l0, l1, l2] [.inr (.inl a)] (hp S D) Q ↔ wp 46 0 [.inr (.inl a)] [] (hp S D) (kont 45 13 [l0, l1, l2] [] Q) := w_callV (y2 := 46) (vs := []) (st := []) dX5_readInto_10 (by decide +kernel) rfl (by decide +kernel) (Nat.le_of_ble_eq_true rfl) (eSm_4 (by simp)) 5 rfl (by decide) ha
theorem s45_13  : wp 45 13 [l0, l1, l2] [] h Q ↔ wp 45 14 [l0, l1, l2] [.inl 0] h Q := w_const1 dX5_readInto_13 k_0
theorem s45_14  : wp 45 14 [l0, l1, l2] [.inl x] h Q ↔ wp 45 15 [l0, l1, .inl x] [] h Q := wp_step dX5_readInto_14 (fun _ => rfl)
theorem s45_15  : wp 45 15 [l0, l1, .inl x] [] h Q ↔ wp 45 16 [l0, l1, .inl x] [.inl x] h Q := wp_step dX5_readInto_15 (fun _ => rfl)
theorem s45_16 (h0 : a ≠ 0) : wp 45 16 [.inr (.inl a), l1, l2] [v0] h Q ↔ wp 45 17 [.inr (.inl a), l1, l2] [.inr (.inl a), v0] h Q := wp_step dX5_readInto_16 (fun _ => if_neg h0)
theorem s45_17 (ha : tg a = 5) : wp 45 17 [l0, l1, l2] [.inr (.inl a), v0] (hp S D) Q ↔ wp 45 20 [l0, l1, l2] [.inl (D a 1), v0] (hp S D) Q := w_getI dX5_readInto_17 (t := 5) (j := 1) (c := 0) (by decide +kernel) (by decide) rfl (ln_ok (by decide) (by decide)) ha
theorem s45_20  : wp 45 20 [l0, l1, l2] [.inl z, .inl x] h Q ↔ if x < z then wp 45 23 [l0, l1, l2] [] h Q else wp 45 54 [l0, l1, l2] [] h Q := w_cge dX5_readInto_20 (by decide)
theorem s45_23  : wp 45 23 [l0, l1, .inl x] [] h Q ↔ wp 45 24 [l0, l1, .inl x] [.inl x] h Q := wp_step dX5_readInto_23 (fun _ => rfl)
theorem s45_24 (h0 : a ≠ 0) : wp 45 24 [.inr (.inl a), l1, l2] [v0] h Q ↔ wp 45 25 [.inr (.inl a), l1, l2] [.inr (.inl a), v0] h Q := wp_step dX5_readInto_24 (fun _ => if_neg h0)
theorem s45_25 (ha : tg a = 5) : wp 45 25 [l0, l1, l2] [.inr (.inl a), v0] (hp S D) Q ↔ wp 45 28 [l0, l1, l2] [.inr (.inl (a + 1)), v0] (hp S D) Q := w_getR dX5_readInto_25 (t := 5) (j := 0) (c := 2) (by decide +kernel) (by decide) rfl (ln_ok (by decide) (by decide)) ha
theorem s45_28 (ha : tg a = 101) (hS : S.length ≤ 2048) : wp 45 28 [l0, l1, l2] [.inr (.inl a), v0] (hp S D) Q ↔ wp 45 29 [l0, l1, l2] [.inl (ln S a), v0] (hp S D) Q := w_len dX5_readInto_28 (by simp [ha]) (ln_lt hS a)
theorem s45_29  : wp 45 29 [l0, l1, l2] [.inl z, .inl x] h Q ↔ if x < z then wp 45 32 [l0, l1, l2] [] h Q else wp 45 54 [l0, l1, l2] [] h Q := w_cge dX5_readInto_29 (by decide)
theorem s45_32 (h0 : a ≠ 0) : wp 45 32 [.inr (.inl a), l1, l2] [] h Q ↔ wp 45 33 [.inr (.inl a), l1, l2] [.inr (.inl a)] h Q := wp_step dX5_readInto_32 (fun _ => if_neg h0)
theorem s45_33 (h0 : a ≠ 0) : wp 45 33 [.inr (.inl a), l1, l2] [v0] h Q ↔ wp 45 34 [.inr (.inl a), l1, l2] [.inr (.inl a), v0] h Q := wp_step dX5_readInto_33 (fun _ => if_neg h0)
theorem s45_34 (ha : tg a = 5) : wp 45 34 [l0, l1, l2] [.inr (.inl a), v0] (hp S D) Q ↔ wp 45 37 [l0, l1, l2] [.inr (.inl (a + 1)), v0] (hp S D) Q := w_getR dX5_readInto_34 (t := 5) (j := 0) (c := 2) (by decide +kernel) (by decide) rfl (ln_ok (by decide) (by decide)) ha
theorem s45_37  : wp 45 37 [l0, l1, .inl x] [v0, v1] h Q ↔ wp 45 38 [l0, l1, .inl x] [.inl x, v0, v1] h Q := wp_step dX5_readInto_37 (fun _ => rfl)
theorem s45_38 (ha : tg a = 101) (h0 : 0 ≤ x) (h1 : x < ln S a) : wp 45 38 [l0, l1, l2] [.inl x, .inr (.inl a), v0] (hp S D) Q ↔ wp 45 39 [l0, l1, l2] [.inl (D a x.toNat), v0] (hp S D) Q := w_cald dX5_readInto_38 ha h0 h1
theorem s45_39 (h0 : a ≠ 0) : wp 45 39 [l0, .inr (.inl a), l2] [v0, v1] h Q ↔ wp 45 40 [l0, .inr (.inl a), l2] [.inr (.inl a), v0, v1] h Q := wp_step dX5_readInto_39 (fun _ => if_neg h0)
theorem s45_40 (ha : tg a = 5) : wp 45 40 [l0, l1, l2] [.inr (.inl a1), .inl x0, .inr (.inl a)] (hp S D) Q ↔ wp 47 0 [.inr (.inl a), .inl x0, .inr (.inl a1)] [] (hp S D) (kont 45 43 [l0, l1, l2] [] Q) := w_callV (y2 := 47) (vs := [.inl x0, .inr (.inl a1)]) (st := []) dX5_readInto_40 (by decide +kernel) rfl (by decide +kernel) (Nat.le_of_ble_eq_true rfl) (eSm_4 (by simp)) 5 rfl (by decide) ha
theorem s45_43  : wp 45 43 [l0, l1, l2] [.inl x] h Q ↔ if x = 0 then wp 45 46 [l0, l1, l2] [] h Q else wp 45 48 [l0, l1, l2] [] h Q := w_ne0 dX5_readInto_43 (by decide)
theorem s45_46  : wp 45 46 [l0, l1, .inl x] [] h Q ↔ wp 45 47 [l0, l1, .inl x] [.inl x] h Q := wp_step dX5_readInto_46 (fun _ => rfl)
theorem s45_47  : wp 45 47 [l0, l1, l2] [.inl x] h Q ↔ Q (some (.inl x)) h := w_reti dX5_readInto_47 (e_ri (by decide +kernel))
theorem s45_48  : wp 45 48 [l0, l1, .inl x] [] h Q ↔ wp 45 51 [l0, l1, .inl (w32 (x + 1))] [] h Q := wp_step dX5_readInto_48 (fun _ => rfl)
theorem s45_51  : wp 45 51 [l0, l1, l2] [] h Q ↔ wp 45 15 [l0, l1, l2] [] h Q := w_goto dX5_readInto_51 (by decide)
theorem s45_54 (h0 : a ≠ 0) : wp 45 54 [.inr (.inl a), l1, l2] [] h Q ↔ wp 45 55 [.inr (.inl a), l1, l2] [.inr (.inl a)] h Q := wp_step dX5_readInto_54 (fun _ => if_neg h0)
theorem s45_55 (ha : tg a = 5) : wp 45 55 [l0, l1, l2] [.inr (.inl a)] (hp S D) Q ↔ wp 45 58 [l0, l1, l2] [.inl (D a 3)] (hp S D) Q := w_getI dX5_readInto_55 (t := 5) (j := 3) (c := 0) (by decide +kernel) (by decide) rfl (ln_ok (by decide) (by decide)) ha
theorem s45_58  : wp 45 58 [l0, l1, l2] [v0] h Q ↔ wp 45 59 [l0, l1, l2] [.inl 4, v0] h Q := w_const1 dX5_readInto_58 k_4
theorem s45_59  : wp 45 59 [l0, l1, l2] [.inl z, .inl x] h Q ↔ if x = z then wp 45 62 [l0, l1, l2] [] h Q else wp 45 66 [l0, l1, l2] [] h Q := w_cne dX5_readInto_59 (by decide)
theorem s45_62  : wp 45 62 [l0, l1, l2] [] h Q ↔ wp 45 63 [l0, l1, l2] [.inl (-1)] h Q := w_const1 dX5_readInto_62 k_m1
theorem s45_63  : wp 45 63 [l0, l1, l2] [v0] h Q ↔ wp 45 70 [l0, l1, l2] [v0] h Q := w_goto dX5_readInto_63 (by decide)
theorem s45_66 (h0 : a ≠ 0) : wp 45 66 [.inr (.inl a), l1, l2] [] h Q ↔ wp 45 67 [.inr (.inl a), l1, l2] [.inr (.inl a)] h Q := wp_step dX5_readInto_66 (fun _ => if_neg h0)
theorem s45_67 (ha : tg a = 5) : wp 45 67 [l0, l1, l2] [.inr (.inl a)] (hp S D) Q ↔ wp 45 70 [l0, l1, l2] [.inl (D a 1)] (hp S D) Q := w_getI dX5_readInto_67 (t := 5) (j := 1) (c := 0) (by decide +kernel) (by decide) rfl (ln_ok (by decide) (by decide)) ha
theorem s45_70  : wp 45 70 [l0, l1, l2] [.inl x] h Q ↔ Q (some (.inl x)) h := w_reti dX5_readInto_70 (e_ri (by decide +kernel))
theorem s46_0 (h0 : a ≠ 0) : wp 46 0 [.inr (.inl a)] [] h Q ↔ wp 46 1 [.inr (.inl a)] [.inr (.inl a)] h Q := wp_step dX5_beginBoat_0 (fun _ => if_neg h0)
theorem s46_1  : wp 46 1 [l0] [v0] h Q ↔ wp 46 2 [l0] [.inl 0, v0] h Q := w_const1 dX5_beginBoat_1 k_0
theorem s46_2 (ha : tg a = 5) : wp 46 2 [l0] [.inl z, .inr (.inl a)] (hp S D) Q ↔ wp 46 5 [l0] [] (hp S (up D a 3 z)) Q := w_put dX5_beginBoat_2 (t := 5) (j := 3) (c := 0) (by decide +kernel) (by decide +kernel) (by decide) rfl (ln_ok (by decide) (by decide)) (Or.inl rfl) ha
theorem s46_5 (h0 : a ≠ 0) : wp 46 5 [.inr (.inl a)] [] h Q ↔ wp 46 6 [.inr (.inl a)] [.inr (.inl a)] h Q := wp_step dX5_beginBoat_5 (fun _ => if_neg h0)
theorem s46_6  : wp 46 6 [l0] [v0] h Q ↔ wp 46 7 [l0] [.inl 0, v0] h Q := w_const1 dX5_beginBoat_6 k_0
theorem s46_7 (ha : tg a = 5) : wp 46 7 [l0] [.inl z, .inr (.inl a)] (hp S D) Q ↔ wp 46 10 [l0] [] (hp S (up D a 4 z)) Q := w_put dX5_beginBoat_7 (t := 5) (j := 4) (c := 0) (by decide +kernel) (by decide +kernel) (by decide) rfl (ln_ok (by decide) (by decide)) (Or.inl rfl) ha
theorem s46_10 (h0 : a ≠ 0) : wp 46 10 [.inr (.inl a)] [] h Q ↔ wp 46 11 [.inr (.inl a)] [.inr (.inl a)] h Q := wp_step dX5_beginBoat_10 (fun _ => if_neg h0)
theorem s46_11  : wp 46 11 [l0] [v0] h Q ↔ wp 46 12 [l0] [.inl 0, v0] h Q := w_const1 dX5_beginBoat_11 k_0
theorem s46_12 (ha : tg a = 5) : wp 46 12 [l0] [.inl z, .inr (.inl a)] (hp S D) Q ↔ wp 46 15 [l0] [] (hp S (up D a 5 z)) Q := w_put dX5_beginBoat_12 (t := 5) (j := 5) (c := 0) (by decide +kernel) (by decide +kernel) (by decide) rfl (ln_ok (by decide) (by decide)) (Or.inl rfl) ha
theorem s46_15  : wp 46 15 [l0] [] h Q ↔ Q none h := w_retv dX5_beginBoat_15 (by decide +kernel)
theorem s47_0 (h0 : a ≠ 0) : wp 47 0 [.inr (.inl a), l1, l2] [] h Q ↔ wp 47 1 [.inr (.inl a), l1, l2] [.inr (.inl a)] h Q := wp_step dX5_allows_0 (fun _ => if_neg h0)
theorem s47_1 (ha : tg a = 5) : wp 47 1 [l0, l1, l2] [.inr (.inl a)] (hp S D) Q ↔ wp 47 4 [l0, l1, l2] [.inl (D a 3)] (hp S D) Q := w_getI dX5_allows_1 (t := 5) (j := 3) (c := 0) (by decide +kernel) (by decide) rfl (ln_ok (by decide) (by decide)) ha
theorem s47_4  : wp 47 4 [l0, l1, l2] [.inl x] h Q ↔ if x = 0 then wp 47 36 [l0, l1, l2] [] h Q else if x = 1 then wp 47 42 [l0, l1, l2] [] h Q else if x = 2 then wp 47 48 [l0, l1, l2] [] h Q else if x = 3 then wp 47 65 [l0, l1, l2] [] h Q else wp 47 72 [l0, l1, l2] [] h Q := by
  have T := w_table (y := 47) (ls := [l0, l1, l2]) (st := []) (h := h) (Q := Q) (x := x) (fun i => ([36, 42, 48, 65] : List Nat).getD i 0) dX5_allows_4 72 (by decide) (by
    intro i hi
    rcases (show i = 0 ∨ i = 1 ∨ i = 2 ∨ i = 3 by omega) with rfl | rfl | rfl | rfl <;> exact ⟨_, rfl, by decide⟩)
  rw [T]
  by_cases hc : x < 0 ∨ 3 < x
  · rw [if_pos hc]
    rw [if_neg (show ¬ x = 0 by omega), if_neg (show ¬ x = 1 by omega), if_neg (show ¬ x = 2 by omega), if_neg (show ¬ x = 3 by omega)]
  · rw [if_neg hc]
    rcases (show x = 0 ∨ x = 1 ∨ x = 2 ∨ x = 3 by omega) with rfl | rfl | rfl | rfl <;> simp
theorem s47_36 (h0 : a ≠ 0) : wp 47 36 [.inr (.inl a), l1, l2] [] h Q ↔ wp 47 37 [.inr (.inl a), l1, l2] [.inr (.inl a)] h Q := wp_step dX5_allows_36 (fun _ => if_neg h0)
theorem s47_37  : wp 47 37 [l0, .inl x, l2] [v0] h Q ↔ wp 47 38 [l0, .inl x, l2] [.inl x, v0] h Q := wp_step dX5_allows_37 (fun _ => rfl)
theorem s47_38 (ha : tg a = 5) : wp 47 38 [l0, l1, l2] [.inl x0, .inr (.inl a)] (hp S D) Q ↔ wp 48 0 [.inr (.inl a), .inl x0, .inr (.inl 0)] [] (hp S D) (kont 47 41 [l0, l1, l2] [] Q) := w_callV (y2 := 48) (vs := [.inl x0]) (st := []) dX5_allows_38 (by decide +kernel) rfl (by decide +kernel) (Nat.le_of_ble_eq_true rfl) (eSm_4 (by simp)) 5 rfl (by decide) ha
theorem s47_41 (h0 : x = 0 ∨ x = 1) : wp 47 41 [l0, l1, l2] [.inl x] h Q ↔ Q (some (.inl x)) h := w_reti dX5_allows_41 (e_rz (by decide +kernel) h0)
theorem s47_42 (h0 : a ≠ 0) : wp 47 42 [.inr (.inl a), l1, l2] [] h Q ↔ wp 47 43 [.inr (.inl a), l1, l2] [.inr (.inl a)] h Q := wp_step dX5_allows_42 (fun _ => if_neg h0)
theorem s47_43  : wp 47 43 [l0, .inl x, l2] [v0] h Q ↔ wp 47 44 [l0, .inl x, l2] [.inl x, v0] h Q := wp_step dX5_allows_43 (fun _ => rfl)
theorem s47_44 (ha : tg a = 5) : wp 47 44 [l0, l1, l2] [.inl x0, .inr (.inl a)] (hp S D) Q ↔ wp 49 0 [.inr (.inl a), .inl x0] [] (hp S D) (kont 47 47 [l0, l1, l2] [] Q) := w_callV (y2 := 49) (vs := [.inl x0]) (st := []) dX5_allows_44 (by decide +kernel) rfl (by decide +kernel) (Nat.le_of_ble_eq_true rfl) (eSm_4 (by simp)) 5 rfl (by decide) ha
theorem s47_47 (h0 : x = 0 ∨ x = 1) : wp 47 47 [l0, l1, l2] [.inl x] h Q ↔ Q (some (.inl x)) h := w_reti dX5_allows_47 (e_rz (by decide +kernel) h0)
theorem s47_48 (h0 : a ≠ 0) : wp 47 48 [.inr (.inl a), l1, l2] [] h Q ↔ wp 47 49 [.inr (.inl a), l1, l2] [.inr (.inl a)] h Q := wp_step dX5_allows_48 (fun _ => if_neg h0)
theorem s47_49  : wp 47 49 [l0, l1, l2] [v0] h Q ↔ wp 47 50 [l0, l1, l2] [.inl 3, v0] h Q := w_const1 dX5_allows_49 k_3
theorem s47_50 (ha : tg a = 5) : wp 47 50 [l0, l1, l2] [.inl z, .inr (.inl a)] (hp S D) Q ↔ wp 47 53 [l0, l1, l2] [] (hp S (up D a 3 z)) Q := w_put dX5_allows_50 (t := 5) (j := 3) (c := 0) (by decide +kernel) (by decide +kernel) (by decide) rfl (ln_ok (by decide) (by decide)) (Or.inl rfl) ha
theorem s47_53  : wp 47 53 [l0, .inl x, l2] [] h Q ↔ wp 47 54 [l0, .inl x, l2] [.inl x] h Q := wp_step dX5_allows_53 (fun _ => rfl)
theorem s47_54  : wp 47 54 [l0, l1, l2] [v0] h Q ↔ wp 47 56 [l0, l1, l2] [.inl 120, v0] h Q := w_const2 dX5_allows_54 k_120 k8_120
theorem s47_56  : wp 47 56 [l0, l1, l2] [.inl z, .inl x] h Q ↔ if x = z then wp 47 59 [l0, l1, l2] [] h Q else wp 47 63 [l0, l1, l2] [] h Q := w_cne dX5_allows_56 (by decide)
theorem s47_59  : wp 47 59 [l0, l1, l2] [] h Q ↔ wp 47 60 [l0, l1, l2] [.inl 1] h Q := w_const1 dX5_allows_59 k_1
theorem s47_60  : wp 47 60 [l0, l1, l2] [v0] h Q ↔ wp 47 64 [l0, l1, l2] [v0] h Q := w_goto dX5_allows_60 (by decide)
theorem s47_63  : wp 47 63 [l0, l1, l2] [] h Q ↔ wp 47 64 [l0, l1, l2] [.inl 0] h Q := w_const1 dX5_allows_63 k_0
theorem s47_64 (h0 : x = 0 ∨ x = 1) : wp 47 64 [l0, l1, l2] [.inl x] h Q ↔ Q (some (.inl x)) h := w_reti dX5_allows_64 (e_rz (by decide +kernel) h0)
theorem s47_65 (h0 : a ≠ 0) : wp 47 65 [.inr (.inl a), l1, l2] [] h Q ↔ wp 47 66 [.inr (.inl a), l1, l2] [.inr (.inl a)] h Q := wp_step dX5_allows_65 (fun _ => if_neg h0)
theorem s47_66  : wp 47 66 [l0, .inl x, l2] [v0] h Q ↔ wp 47 67 [l0, .inl x, l2] [.inl x, v0] h Q := wp_step dX5_allows_66 (fun _ => rfl)
theorem s47_67 (h0 : a ≠ 0) : wp 47 67 [l0, l1, .inr (.inl a)] [v0, v1] h Q ↔ wp 47 68 [l0, l1, .inr (.inl a)] [.inr (.inl a), v0, v1] h Q := wp_step dX5_allows_67 (fun _ => if_neg h0)
theorem s47_68 (ha : tg a = 5) : wp 47 68 [l0, l1, l2] [.inr (.inl a1), .inl x0, .inr (.inl a)] (hp S D) Q ↔ wp 50 0 [.inr (.inl a), .inl x0, .inr (.inl a1), .inr (.inl 0)] [] (hp S D) (kont 47 71 [l0, l1, l2] [] Q) := w_callV (y2 := 50) (vs := [.inl x0, .inr (.inl a1)]) (st := []) dX5_allows_68 (by decide +kernel) rfl (by decide +kernel) (Nat.le_of_ble_eq_true rfl) (eSm_4 (by simp)) 5 rfl (by decide) ha
theorem s47_71 (h0 : x = 0 ∨ x = 1) : wp 47 71 [l0, l1, l2] [.inl x] h Q ↔ Q (some (.inl x)) h := w_reti dX5_allows_71 (e_rz (by decide +kernel) h0)
theorem s47_72 (h0 : a ≠ 0) : wp 47 72 [.inr (.inl a), l1, l2] [] h Q ↔ wp 47 73 [.inr (.inl a), l1, l2] [.inr (.inl a)] h Q := wp_step dX5_allows_72 (fun _ => if_neg h0)
theorem s47_73 (ha : tg a = 5) : wp 47 73 [l0, l1, l2] [.inr (.inl a)] (hp S D) Q ↔ wp 46 0 [.inr (.inl a)] [] (hp S D) (kont 47 76 [l0, l1, l2] [] Q) := w_callV (y2 := 46) (vs := []) (st := []) dX5_allows_73 (by decide +kernel) rfl (by decide +kernel) (Nat.le_of_ble_eq_true rfl) (eSm_4 (by simp)) 5 rfl (by decide) ha
theorem s47_76  : wp 47 76 [l0, .inl x, l2] [] h Q ↔ wp 47 77 [l0, .inl x, l2] [.inl x] h Q := wp_step dX5_allows_76 (fun _ => rfl)
theorem s47_77  : wp 47 77 [l0, l1, l2] [v0] h Q ↔ wp 47 79 [l0, l1, l2] [.inl 44, v0] h Q := w_const2 dX5_allows_77 k_44 k8_44
theorem s47_79  : wp 47 79 [l0, l1, l2] [.inl z, .inl x] h Q ↔ if x = z then wp 47 82 [l0, l1, l2] [] h Q else wp 47 86 [l0, l1, l2] [] h Q := w_cne dX5_allows_79 (by decide)
theorem s47_82  : wp 47 82 [l0, l1, l2] [] h Q ↔ wp 47 83 [l0, l1, l2] [.inl 1] h Q := w_const1 dX5_allows_82 k_1
theorem s47_83  : wp 47 83 [l0, l1, l2] [v0] h Q ↔ wp 47 87 [l0, l1, l2] [v0] h Q := w_goto dX5_allows_83 (by decide)
theorem s47_86  : wp 47 86 [l0, l1, l2] [] h Q ↔ wp 47 87 [l0, l1, l2] [.inl 0] h Q := w_const1 dX5_allows_86 k_0
theorem s47_87 (h0 : x = 0 ∨ x = 1) : wp 47 87 [l0, l1, l2] [.inl x] h Q ↔ Q (some (.inl x)) h := w_reti dX5_allows_87 (e_rz (by decide +kernel) h0)
theorem s48_0  : wp 48 0 [l0, .inl x, l2] [] h Q ↔ wp 48 1 [l0, .inl x, l2] [.inl x] h Q := wp_step dX5_allowsInTick_0 (fun _ => rfl)
theorem s48_1  : wp 48 1 [l0, l1, l2] [v0] h Q ↔ wp 48 3 [l0, l1, l2] [.inl 58, v0] h Q := w_const2 dX5_allowsInTick_1 k_58 k8_58
theorem s48_3  : wp 48 3 [l0, l1, l2] [.inl z, .inl x] h Q ↔ if x = z then wp 48 6 [l0, l1, l2] [] h Q else wp 48 24 [l0, l1, l2] [] h Q := w_cne dX5_allowsInTick_3 (by decide)
theorem s48_6 (h0 : a ≠ 0) : wp 48 6 [.inr (.inl a), l1, l2] [] h Q ↔ wp 48 7 [.inr (.inl a), l1, l2] [.inr (.inl a)] h Q := wp_step dX5_allowsInTick_6 (fun _ => if_neg h0)
theorem s48_7  : wp 48 7 [l0, l1, l2] [v0] h Q ↔ wp 48 8 [l0, l1, l2] [.inl 1, v0] h Q := w_const1 dX5_allowsInTick_7 k_1
theorem s48_8 (ha : tg a = 5) : wp 48 8 [l0, l1, l2] [.inl z, .inr (.inl a)] (hp S D) Q ↔ wp 48 11 [l0, l1, l2] [] (hp S (up D a 3 z)) Q := w_put dX5_allowsInTick_8 (t := 5) (j := 3) (c := 0) (by decide +kernel) (by decide +kernel) (by decide) rfl (ln_ok (by decide) (by decide)) (Or.inl rfl) ha
theorem s48_11 (h0 : a ≠ 0) : wp 48 11 [.inr (.inl a), l1, l2] [] h Q ↔ wp 48 12 [.inr (.inl a), l1, l2] [.inr (.inl a)] h Q := wp_step dX5_allowsInTick_11 (fun _ => if_neg h0)
theorem s48_12 (ha : tg a = 5) : wp 48 12 [l0, l1, l2] [.inr (.inl a)] (hp S D) Q ↔ wp 48 15 [l0, l1, l2] [.inl (D a 4)] (hp S D) Q := w_getI dX5_allowsInTick_12 (t := 5) (j := 4) (c := 0) (by decide +kernel) (by decide) rfl (ln_ok (by decide) (by decide)) ha
theorem s48_15  : wp 48 15 [l0, l1, l2] [.inl x] h Q ↔ if 0 < x then wp 48 18 [l0, l1, l2] [] h Q else wp 48 22 [l0, l1, l2] [] h Q := w_le0 dX5_allowsInTick_15 (by decide)
theorem s48_18  : wp 48 18 [l0, l1, l2] [] h Q ↔ wp 48 19 [l0, l1, l2] [.inl 1] h Q := w_const1 dX5_allowsInTick_18 k_1
theorem s48_19  : wp 48 19 [l0, l1, l2] [v0] h Q ↔ wp 48 23 [l0, l1, l2] [v0] h Q := w_goto dX5_allowsInTick_19 (by decide)
theorem s48_22  : wp 48 22 [l0, l1, l2] [] h Q ↔ wp 48 23 [l0, l1, l2] [.inl 0] h Q := w_const1 dX5_allowsInTick_22 k_0
theorem s48_23 (h0 : x = 0 ∨ x = 1) : wp 48 23 [l0, l1, l2] [.inl x] h Q ↔ Q (some (.inl x)) h := w_reti dX5_allowsInTick_23 (e_rz (by decide +kernel) h0)
theorem s48_24 (h0 : a ≠ 0) : wp 48 24 [.inr (.inl a), l1, l2] [] h Q ↔ wp 48 25 [.inr (.inl a), l1, l2] [.inr (.inl a)] h Q := wp_step dX5_allowsInTick_24 (fun _ => if_neg h0)
theorem s48_25 (ha : tg a = 5) : wp 48 25 [l0, l1, l2] [.inr (.inl a)] (hp S D) Q ↔ wp 48 28 [l0, l1, l2] [.inl (D a 4)] (hp S D) Q := w_getI dX5_allowsInTick_25 (t := 5) (j := 4) (c := 0) (by decide +kernel) (by decide) rfl (ln_ok (by decide) (by decide)) ha
theorem s48_28  : wp 48 28 [l0, l1, l2] [.inl x] h Q ↔ if 0 < x then wp 48 31 [l0, l1, l2] [] h Q else wp 48 42 [l0, l1, l2] [] h Q := w_le0 dX5_allowsInTick_28 (by decide)
theorem s48_31 (h0 : a ≠ 0) : wp 48 31 [.inr (.inl a), l1, l2] [] h Q ↔ wp 48 32 [.inr (.inl a), l1, l2] [.inr (.inl a)] h Q := wp_step dX5_allowsInTick_31 (fun _ => if_neg h0)
theorem s48_32 (ha : tg a = 5) : wp 48 32 [l0, l1, l2] [.inr (.inl a)] (hp S D) Q ↔ wp 48 35 [l0, l1, l2] [.inl (D a 5)] (hp S D) Q := w_getI dX5_allowsInTick_32 (t := 5) (j := 5) (c := 0) (by decide +kernel) (by decide) rfl (ln_ok (by decide) (by decide)) ha
theorem s48_35  : wp 48 35 [l0, l1, l2] [.inl x] h Q ↔ if x = 0 then wp 48 38 [l0, l1, l2] [] h Q else wp 48 42 [l0, l1, l2] [] h Q := w_ne0 dX5_allowsInTick_35 (by decide)
theorem s48_38  : wp 48 38 [l0, l1, l2] [] h Q ↔ wp 48 39 [l0, l1, l2] [.inl 1] h Q := w_const1 dX5_allowsInTick_38 k_1
theorem s48_39  : wp 48 39 [l0, l1, l2] [v0] h Q ↔ wp 48 43 [l0, l1, l2] [v0] h Q := w_goto dX5_allowsInTick_39 (by decide)
theorem s48_42  : wp 48 42 [l0, l1, l2] [] h Q ↔ wp 48 43 [l0, l1, l2] [.inl 0] h Q := w_const1 dX5_allowsInTick_42 k_0
theorem s48_43  : wp 48 43 [l0, l1, l2] [.inl x] h Q ↔ wp 48 44 [l0, l1, .inl x] [] h Q := wp_step dX5_allowsInTick_43 (fun _ => rfl)
theorem s48_44  : wp 48 44 [l0, .inl x, l2] [] h Q ↔ wp 48 45 [l0, .inl x, l2] [.inl x] h Q := wp_step dX5_allowsInTick_44 (fun _ => rfl)
theorem s48_45  : wp 48 45 [l0, l1, l2] [v0] h Q ↔ wp 48 47 [l0, l1, l2] [.inl 48, v0] h Q := w_const2 dX5_allowsInTick_45 k_48 k8_48
theorem s48_47  : wp 48 47 [l0, l1, l2] [v0, v1] h Q ↔ wp 48 49 [l0, l1, l2] [.inl 57, v0, v1] h Q := w_const2 dX5_allowsInTick_47 k_57 k8_57
theorem s48_49  : wp 48 49 [l0, l1, l2] [.inl x2, .inl x1, .inl x0] h Q ↔ wp 91 0 [.inl x0, .inl x1, .inl x2] [] h (kont 48 52 [l0, l1, l2] [] Q) := w_callS (y2 := 91) (kd := 3) (vs := [.inl x0, .inl x1, .inl x2]) (st := []) dX5_allowsInTick_49 (by decide +kernel) (by decide) rfl (by decide +kernel) (Nat.le_of_ble_eq_true rfl) (eSm_4 (by simp))
theorem s48_52  : wp 48 52 [l0, l1, l2] [.inl x] h Q ↔ if x = 0 then wp 48 67 [l0, l1, l2] [] h Q else wp 48 55 [l0, l1, l2] [] h Q := w_eq0 dX5_allowsInTick_52 (by decide)
theorem s48_55 (h0 : a ≠ 0) : wp 48 55 [.inr (.inl a), l1, l2] [] h Q ↔ wp 48 56 [.inr (.inl a), l1, l2] [.inr (.inl a)] h Q := wp_step dX5_allowsInTick_55 (fun _ => if_neg h0)
theorem s48_56 (ha : tg a = 5) : wp 48 56 [l0, l1, l2] [.inr (.inl a)] (hp S D) Q ↔ wp 48 59 [l0, l1, l2] [.inl (D a 4)] (hp S D) Q := w_getI dX5_allowsInTick_56 (t := 5) (j := 4) (c := 0) (by decide +kernel) (by decide) rfl (ln_ok (by decide) (by decide)) ha
theorem s48_59  : wp 48 59 [l0, l1, l2] [v0] h Q ↔ wp 48 60 [l0, l1, l2] [.inl 4, v0] h Q := w_const1 dX5_allowsInTick_59 k_4
theorem s48_60  : wp 48 60 [l0, l1, l2] [.inl z, .inl x] h Q ↔ if x < z then wp 48 63 [l0, l1, l2] [] h Q else wp 48 67 [l0, l1, l2] [] h Q := w_cge dX5_allowsInTick_60 (by decide)
theorem s48_63  : wp 48 63 [l0, l1, .inl x] [] h Q ↔ wp 48 64 [l0, l1, .inl x] [.inl x] h Q := wp_step dX5_allowsInTick_63 (fun _ => rfl)
theorem s48_64  : wp 48 64 [l0, l1, l2] [.inl x] h Q ↔ if x = 0 then wp 48 69 [l0, l1, l2] [] h Q else wp 48 67 [l0, l1, l2] [] h Q := w_eq0 dX5_allowsInTick_64 (by decide)
theorem s48_67  : wp 48 67 [l0, l1, l2] [] h Q ↔ wp 48 68 [l0, l1, l2] [.inl 0] h Q := w_const1 dX5_allowsInTick_67 k_0
theorem s48_68 (h0 : x = 0 ∨ x = 1) : wp 48 68 [l0, l1, l2] [.inl x] h Q ↔ Q (some (.inl x)) h := w_reti dX5_allowsInTick_68 (e_rz (by decide +kernel) h0)
theorem s48_69 (h0 : a ≠ 0) : wp 48 69 [.inr (.inl a), l1, l2] [] h Q ↔ wp 48 70 [.inr (.inl a), l1, l2] [.inr (.inl a)] h Q := wp_step dX5_allowsInTick_69 (fun _ => if_neg h0)
theorem s48_70  : wp 48 70 [l0, l1, l2] [v0] h Q ↔ wp 48 72 [l0, l1, l2] [.inl 10, v0] h Q := w_const2 dX5_allowsInTick_70 k_10 k8_10
theorem s48_72 (h0 : a ≠ 0) : wp 48 72 [.inr (.inl a), l1, l2] [v0, v1] h Q ↔ wp 48 73 [.inr (.inl a), l1, l2] [.inr (.inl a), v0, v1] h Q := wp_step dX5_allowsInTick_72 (fun _ => if_neg h0)
theorem s48_73 (ha : tg a = 5) : wp 48 73 [l0, l1, l2] [.inr (.inl a), v0, v1] (hp S D) Q ↔ wp 48 76 [l0, l1, l2] [.inl (D a 5), v0, v1] (hp S D) Q := w_getI dX5_allowsInTick_73 (t := 5) (j := 5) (c := 0) (by decide +kernel) (by decide) rfl (ln_ok (by decide) (by decide)) ha
theorem s48_76  : wp 48 76 [l0, l1, l2] [.inl z, .inl x, v0] h Q ↔ wp 48 77 [l0, l1, l2] [.inl (w32 (x * z)), v0] h Q := wp_step dX5_allowsInTick_76 (fun _ => rfl)
theorem s48_77  : wp 48 77 [l0, .inl x, l2] [v0, v1] h Q ↔ wp 48 78 [l0, .inl x, l2] [.inl x, v0, v1] h Q := wp_step dX5_allowsInTick_77 (fun _ => rfl)
theorem s48_78  : wp 48 78 [l0, l1, l2] [.inl z, .inl x, v0] h Q ↔ wp 48 79 [l0, l1, l2] [.inl (w32 (x + z)), v0] h Q := wp_step dX5_allowsInTick_78 (fun _ => rfl)
theorem s48_79  : wp 48 79 [l0, l1, l2] [v0, v1] h Q ↔ wp 48 81 [l0, l1, l2] [.inl 48, v0, v1] h Q := w_const2 dX5_allowsInTick_79 k_48 k8_48
theorem s48_81  : wp 48 81 [l0, l1, l2] [.inl z, .inl x, v0] h Q ↔ wp 48 82 [l0, l1, l2] [.inl (w32 (x - z)), v0] h Q := wp_step dX5_allowsInTick_81 (fun _ => rfl)
theorem s48_82 (ha : tg a = 5) : wp 48 82 [l0, l1, l2] [.inl z, .inr (.inl a)] (hp S D) Q ↔ wp 48 85 [l0, l1, l2] [] (hp S (up D a 5 z)) Q := w_put dX5_allowsInTick_82 (t := 5) (j := 5) (c := 0) (by decide +kernel) (by decide +kernel) (by decide) rfl (ln_ok (by decide) (by decide)) (Or.inl rfl) ha
theorem s48_85 (h0 : a ≠ 0) : wp 48 85 [.inr (.inl a), l1, l2] [] h Q ↔ wp 48 86 [.inr (.inl a), l1, l2] [.inr (.inl a)] h Q := wp_step dX5_allowsInTick_85 (fun _ => if_neg h0)
theorem s48_86  : wp 48 86 [l0, l1, l2] [.inr (.inl a0)] h Q ↔ wp 48 87 [l0, l1, l2] [.inr (.inl a0), .inr (.inl a0)] h Q := wp_step dX5_allowsInTick_86 (fun _ => rfl)
theorem s48_87 (ha : tg a = 5) : wp 48 87 [l0, l1, l2] [.inr (.inl a), v0] (hp S D) Q ↔ wp 48 90 [l0, l1, l2] [.inl (D a 4), v0] (hp S D) Q := w_getI dX5_allowsInTick_87 (t := 5) (j := 4) (c := 0) (by decide +kernel) (by decide) rfl (ln_ok (by decide) (by decide)) ha
theorem s48_90  : wp 48 90 [l0, l1, l2] [v0, v1] h Q ↔ wp 48 91 [l0, l1, l2] [.inl 1, v0, v1] h Q := w_const1 dX5_allowsInTick_90 k_1
theorem s48_91  : wp 48 91 [l0, l1, l2] [.inl z, .inl x, v0] h Q ↔ wp 48 92 [l0, l1, l2] [.inl (w32 (x + z)), v0] h Q := wp_step dX5_allowsInTick_91 (fun _ => rfl)
theorem s48_92 (ha : tg a = 5) : wp 48 92 [l0, l1, l2] [.inl z, .inr (.inl a)] (hp S D) Q ↔ wp 48 95 [l0, l1, l2] [] (hp S (up D a 4 z)) Q := w_put dX5_allowsInTick_92 (t := 5) (j := 4) (c := 0) (by decide +kernel) (by decide +kernel) (by decide) rfl (ln_ok (by decide) (by decide)) (Or.inl rfl) ha
theorem s48_95  : wp 48 95 [l0, l1, l2] [] h Q ↔ wp 48 96 [l0, l1, l2] [.inl 1] h Q := w_const1 dX5_allowsInTick_95 k_1
theorem s48_96 (h0 : x = 0 ∨ x = 1) : wp 48 96 [l0, l1, l2] [.inl x] h Q ↔ Q (some (.inl x)) h := w_reti dX5_allowsInTick_96 (e_rz (by decide +kernel) h0)
theorem s49_0 (h0 : a ≠ 0) : wp 49 0 [.inr (.inl a), l1] [] h Q ↔ wp 49 1 [.inr (.inl a), l1] [.inr (.inl a)] h Q := wp_step dX5_allowsAsKind_0 (fun _ => if_neg h0)
theorem s49_1  : wp 49 1 [l0, .inl x] [v0] h Q ↔ wp 49 2 [l0, .inl x] [.inl x, v0] h Q := wp_step dX5_allowsAsKind_1 (fun _ => rfl)
theorem s49_2  : wp 49 2 [l0, l1] [v0, v1] h Q ↔ wp 49 4 [l0, l1] [.inl 48, v0, v1] h Q := w_const2 dX5_allowsAsKind_2 k_48 k8_48
theorem s49_4  : wp 49 4 [l0, l1] [.inl z, .inl x, v0] h Q ↔ wp 49 5 [l0, l1] [.inl (w32 (x - z)), v0] h Q := wp_step dX5_allowsAsKind_4 (fun _ => rfl)
theorem s49_5 (ha : tg a = 5) : wp 49 5 [l0, l1] [.inl z, .inr (.inl a)] (hp S D) Q ↔ wp 49 8 [l0, l1] [] (hp S (up D a 6 z)) Q := w_put dX5_allowsAsKind_5 (t := 5) (j := 6) (c := 0) (by decide +kernel) (by decide +kernel) (by decide) rfl (ln_ok (by decide) (by decide)) (Or.inl rfl) ha
theorem s49_8 (h0 : a ≠ 0) : wp 49 8 [.inr (.inl a), l1] [] h Q ↔ wp 49 9 [.inr (.inl a), l1] [.inr (.inl a)] h Q := wp_step dX5_allowsAsKind_8 (fun _ => if_neg h0)
theorem s49_9  : wp 49 9 [l0, l1] [v0] h Q ↔ wp 49 10 [l0, l1] [.inl 2, v0] h Q := w_const1 dX5_allowsAsKind_9 k_2
theorem s49_10 (ha : tg a = 5) : wp 49 10 [l0, l1] [.inl z, .inr (.inl a)] (hp S D) Q ↔ wp 49 13 [l0, l1] [] (hp S (up D a 3 z)) Q := w_put dX5_allowsAsKind_10 (t := 5) (j := 3) (c := 0) (by decide +kernel) (by decide +kernel) (by decide) rfl (ln_ok (by decide) (by decide)) (Or.inl rfl) ha
theorem s49_13 (h0 : a ≠ 0) : wp 49 13 [.inr (.inl a), l1] [] h Q ↔ wp 49 14 [.inr (.inl a), l1] [.inr (.inl a)] h Q := wp_step dX5_allowsAsKind_13 (fun _ => if_neg h0)
theorem s49_14 (ha : tg a = 5) : wp 49 14 [l0, l1] [.inr (.inl a)] (hp S D) Q ↔ wp 49 17 [l0, l1] [.inl (D a 6)] (hp S D) Q := w_getI dX5_allowsAsKind_14 (t := 5) (j := 6) (c := 0) (by decide +kernel) (by decide) rfl (ln_ok (by decide) (by decide)) ha
theorem s49_17  : wp 49 17 [l0, l1] [.inl x0] h Q ↔ wp 95 0 [.inl x0] [] h (kont 49 20 [l0, l1] [] Q) := w_callS (y2 := 95) (kd := 3) (vs := [.inl x0]) (st := []) dX5_allowsAsKind_17 (by decide +kernel) (by decide) rfl (by decide +kernel) (Nat.le_of_ble_eq_true rfl) (eSm_4 (by simp))
theorem s49_20 (h0 : x = 0 ∨ x = 1) : wp 49 20 [l0, l1] [.inl x] h Q ↔ Q (some (.inl x)) h := w_reti dX5_allowsAsKind_20 (e_rz (by decide +kernel) h0)
theorem s50_0  : wp 50 0 [l0, .inl x, l2, l3] [] h Q ↔ wp 50 1 [l0, .inl x, l2, l3] [.inl x] h Q := wp_step dX5_allowsAsLoad_0 (fun _ => rfl)
theorem s50_1  : wp 50 1 [l0, l1, l2, l3] [v0] h Q ↔ wp 50 3 [l0, l1, l2, l3] [.inl 48, v0] h Q := w_const2 dX5_allowsAsLoad_1 k_48 k8_48
theorem s50_3  : wp 50 3 [l0, l1, l2, l3] [.inl z, .inl x] h Q ↔ wp 50 4 [l0, l1, l2, l3] [.inl (w32 (x - z))] h Q := wp_step dX5_allowsAsLoad_3 (fun _ => rfl)
theorem s50_4  : wp 50 4 [l0, l1, l2, l3] [.inl x] h Q ↔ wp 50 5 [l0, l1, l2, .inl x] [] h Q := wp_step dX5_allowsAsLoad_4 (fun _ => rfl)
theorem s50_5  : wp 50 5 [l0, l1, l2, .inl x] [] h Q ↔ wp 50 6 [l0, l1, l2, .inl x] [.inl x] h Q := wp_step dX5_allowsAsLoad_5 (fun _ => rfl)
theorem s50_6  : wp 50 6 [l0, l1, l2, l3] [.inl x0] h Q ↔ wp 96 0 [.inl x0] [] h (kont 50 9 [l0, l1, l2, l3] [] Q) := w_callS (y2 := 96) (kd := 3) (vs := [.inl x0]) (st := []) dX5_allowsAsLoad_6 (by decide +kernel) (by decide) rfl (by decide +kernel) (Nat.le_of_ble_eq_true rfl) (eSm_4 (by simp))
theorem s50_9  : wp 50 9 [l0, l1, l2, l3] [.inl x] h Q ↔ if x = 0 then wp 50 12 [l0, l1, l2, l3] [] h Q else wp 50 14 [l0, l1, l2, l3] [] h Q := w_ne0 dX5_allowsAsLoad_9 (by decide)
theorem s50_12  : wp 50 12 [l0, l1, l2, l3] [] h Q ↔ wp 50 13 [l0, l1, l2, l3] [.inl 0] h Q := w_const1 dX5_allowsAsLoad_12 k_0
theorem s50_13 (h0 : x = 0 ∨ x = 1) : wp 50 13 [l0, l1, l2, l3] [.inl x] h Q ↔ Q (some (.inl x)) h := w_reti dX5_allowsAsLoad_13 (e_rz (by decide +kernel) h0)
theorem s50_14 (h0 : a ≠ 0) : wp 50 14 [l0, l1, .inr (.inl a), l3] [] h Q ↔ wp 50 15 [l0, l1, .inr (.inl a), l3] [.inr (.inl a)] h Q := wp_step dX5_allowsAsLoad_14 (fun _ => if_neg h0)
theorem s50_15 (h0 : a ≠ 0) : wp 50 15 [.inr (.inl a), l1, l2, l3] [v0] h Q ↔ wp 50 16 [.inr (.inl a), l1, l2, l3] [.inr (.inl a), v0] h Q := wp_step dX5_allowsAsLoad_15 (fun _ => if_neg h0)
theorem s50_16 (ha : tg a = 5) : wp 50 16 [l0, l1, l2, l3] [.inr (.inl a), v0] (hp S D) Q ↔ wp 50 19 [l0, l1, l2, l3] [.inl (D a 5), v0] (hp S D) Q := w_getI dX5_allowsAsLoad_16 (t := 5) (j := 5) (c := 0) (by decide +kernel) (by decide) rfl (ln_ok (by decide) (by decide)) ha
theorem s50_19 (ha : tg a = 4) : wp 50 19 [l0, l1, l2, l3] [.inl x0, .inr (.inl a)] (hp S D) Q ↔ wp 39 0 [.inr (.inl a), .inl x0] [] (hp S D) (kont 50 22 [l0, l1, l2, l3] [] Q) := w_callV (y2 := 39) (vs := [.inl x0]) (st := []) dX5_allowsAsLoad_19 (by decide +kernel) rfl (by decide +kernel) (Nat.le_of_ble_eq_true rfl) (eSm_4 (by simp)) 4 rfl (by decide) ha
theorem s50_22  : wp 50 22 [l0, l1, l2, l3] [.inl x] h Q ↔ if x = 0 then wp 50 41 [l0, l1, l2, l3] [] h Q else wp 50 25 [l0, l1, l2, l3] [] h Q := w_eq0 dX5_allowsAsLoad_22 (by decide)
theorem s50_25 (h0 : a ≠ 0) : wp 50 25 [l0, l1, .inr (.inl a), l3] [] h Q ↔ wp 50 26 [l0, l1, .inr (.inl a), l3] [.inr (.inl a)] h Q := wp_step dX5_allowsAsLoad_25 (fun _ => if_neg h0)
theorem s50_26 (h0 : a ≠ 0) : wp 50 26 [.inr (.inl a), l1, l2, l3] [v0] h Q ↔ wp 50 27 [.inr (.inl a), l1, l2, l3] [.inr (.inl a), v0] h Q := wp_step dX5_allowsAsLoad_26 (fun _ => if_neg h0)
theorem s50_27 (ha : tg a = 5) : wp 50 27 [l0, l1, l2, l3] [.inr (.inl a), v0] (hp S D) Q ↔ wp 50 30 [l0, l1, l2, l3] [.inl (D a 5), v0] (hp S D) Q := w_getI dX5_allowsAsLoad_27 (t := 5) (j := 5) (c := 0) (by decide +kernel) (by decide) rfl (ln_ok (by decide) (by decide)) ha
theorem s50_30 (h0 : a ≠ 0) : wp 50 30 [.inr (.inl a), l1, l2, l3] [v0, v1] h Q ↔ wp 50 31 [.inr (.inl a), l1, l2, l3] [.inr (.inl a), v0, v1] h Q := wp_step dX5_allowsAsLoad_30 (fun _ => if_neg h0)
theorem s50_31 (ha : tg a = 5) : wp 50 31 [l0, l1, l2, l3] [.inr (.inl a), v0, v1] (hp S D) Q ↔ wp 50 34 [l0, l1, l2, l3] [.inl (D a 6), v0, v1] (hp S D) Q := w_getI dX5_allowsAsLoad_31 (t := 5) (j := 6) (c := 0) (by decide +kernel) (by decide) rfl (ln_ok (by decide) (by decide)) ha
theorem s50_34  : wp 50 34 [l0, l1, l2, .inl x] [v0, v1, v2] h Q ↔ wp 50 35 [l0, l1, l2, .inl x] [.inl x, v0, v1, v2] h Q := wp_step dX5_allowsAsLoad_34 (fun _ => rfl)
theorem s50_35 (ha : tg a = 4) : wp 50 35 [l0, l1, l2, l3] [.inl x2, .inl x1, .inl x0, .inr (.inl a)] (hp S D) Q ↔ wp 40 0 [.inr (.inl a), .inl x0, .inl x1, .inl x2, .inr (.inl 0)] [] (hp S D) (kont 50 38 [l0, l1, l2, l3] [] Q) := w_callV (y2 := 40) (vs := [.inl x0, .inl x1, .inl x2]) (st := []) dX5_allowsAsLoad_35 (by decide +kernel) rfl (by decide +kernel) (Nat.le_of_ble_eq_true rfl) (eSm_4 (by simp)) 4 rfl (by decide) ha
theorem s50_38  : wp 50 38 [l0, l1, l2, l3] [] h Q ↔ wp 50 46 [l0, l1, l2, l3] [] h Q := w_goto dX5_allowsAsLoad_38 (by decide)
theorem s50_41 (h0 : a ≠ 0) : wp 50 41 [.inr (.inl a), l1, l2, l3] [] h Q ↔ wp 50 42 [.inr (.inl a), l1, l2, l3] [.inr (.inl a)] h Q := wp_step dX5_allowsAsLoad_41 (fun _ => if_neg h0)
theorem s50_42  : wp 50 42 [l0, l1, l2, l3] [v0] h Q ↔ wp 50 43 [l0, l1, l2, l3] [.inl 1, v0] h Q := w_const1 dX5_allowsAsLoad_42 k_1
theorem s50_43 (ha : tg a = 5) (hv : z = 0 ∨ z = 1) : wp 50 43 [l0, l1, l2, l3] [.inl z, .inr (.inl a)] (hp S D) Q ↔ wp 50 46 [l0, l1, l2, l3] [] (hp S (up D a 2 z)) Q := w_put dX5_allowsAsLoad_43 (t := 5) (j := 2) (c := 1) (by decide +kernel) (by decide +kernel) (by decide) rfl (ln_ok (by decide) (by decide)) (Or.inr ⟨rfl, hv⟩) ha
theorem s50_46 (h0 : a ≠ 0) : wp 50 46 [.inr (.inl a), l1, l2, l3] [] h Q ↔ wp 50 47 [.inr (.inl a), l1, l2, l3] [.inr (.inl a)] h Q := wp_step dX5_allowsAsLoad_46 (fun _ => if_neg h0)
theorem s50_47  : wp 50 47 [l0, l1, l2, l3] [v0] h Q ↔ wp 50 48 [l0, l1, l2, l3] [.inl 4, v0] h Q := w_const1 dX5_allowsAsLoad_47 k_4
theorem s50_48 (ha : tg a = 5) : wp 50 48 [l0, l1, l2, l3] [.inl z, .inr (.inl a)] (hp S D) Q ↔ wp 50 51 [l0, l1, l2, l3] [] (hp S (up D a 3 z)) Q := w_put dX5_allowsAsLoad_48 (t := 5) (j := 3) (c := 0) (by decide +kernel) (by decide +kernel) (by decide) rfl (ln_ok (by decide) (by decide)) (Or.inl rfl) ha
theorem s50_51  : wp 50 51 [l0, l1, l2, l3] [] h Q ↔ wp 50 52 [l0, l1, l2, l3] [.inl 1] h Q := w_const1 dX5_allowsAsLoad_51 k_1
theorem s50_52 (h0 : x = 0 ∨ x = 1) : wp 50 52 [l0, l1, l2, l3] [.inl x] h Q ↔ Q (some (.inl x)) h := w_reti dX5_allowsAsLoad_52 (e_rz (by decide +kernel) h0)
theorem s51_0  : wp 51 0 [l0, .inl x] [] h Q ↔ wp 51 1 [l0, .inl x] [.inl x] h Q := wp_step dX6_at_0 (fun _ => rfl)
theorem s51_1  : wp 51 1 [l0, l1] [.inl x] h Q ↔ if x < 0 then wp 51 16 [l0, l1] [] h Q else wp 51 4 [l0, l1] [] h Q := w_lt0 dX6_at_1 (by decide)
theorem s51_4  : wp 51 4 [l0, .inl x] [] h Q ↔ wp 51 5 [l0, .inl x] [.inl x] h Q := wp_step dX6_at_4 (fun _ => rfl)
theorem s51_5 (h0 : a ≠ 0) : wp 51 5 [.inr (.inl a), l1] [v0] h Q ↔ wp 51 6 [.inr (.inl a), l1] [.inr (.inl a), v0] h Q := wp_step dX6_at_5 (fun _ => if_neg h0)
theorem s51_6 (ha : tg a = 100) (hS : S.length ≤ 2048) : wp 51 6 [l0, l1] [.inr (.inl a), v0] (hp S D) Q ↔ wp 51 7 [l0, l1] [.inl (ln S a), v0] (hp S D) Q := w_len dX6_at_6 (by simp [ha]) (ln_lt hS a)
theorem s51_7  : wp 51 7 [l0, l1] [.inl z, .inl x] h Q ↔ if x < z then wp 51 10 [l0, l1] [] h Q else wp 51 16 [l0, l1] [] h Q := w_cge dX6_at_7 (by decide)
theorem s51_10 (h0 : a ≠ 0) : wp 51 10 [.inr (.inl a), l1] [] h Q ↔ wp 51 11 [.inr (.inl a), l1] [.inr (.inl a)] h Q := wp_step dX6_at_10 (fun _ => if_neg h0)
theorem s51_11  : wp 51 11 [l0, .inl x] [v0] h Q ↔ wp 51 12 [l0, .inl x] [.inl x, v0] h Q := wp_step dX6_at_11 (fun _ => rfl)
theorem s51_12 (ha : tg a = 100) (h0 : 0 ≤ x) (h1 : x < ln S a) : wp 51 12 [l0, l1] [.inl x, .inr (.inl a)] (hp S D) Q ↔ wp 51 13 [l0, l1] [.inl (rd S D a x.toNat)] (hp S D) Q := w_iald dX6_at_12 ha h0 h1
theorem s51_13  : wp 51 13 [l0, l1] [v0] h Q ↔ wp 51 17 [l0, l1] [v0] h Q := w_goto dX6_at_13 (by decide)
theorem s51_16  : wp 51 16 [l0, l1] [] h Q ↔ wp 51 17 [l0, l1] [.inl 0] h Q := w_const1 dX6_at_16 k_0
theorem s51_17  : wp 51 17 [l0, l1] [.inl x] h Q ↔ Q (some (.inl x)) h := w_reti dX6_at_17 (e_ri (by decide +kernel))
theorem s52_0  : wp 52 0 [l0, .inl x, l2] [] h Q ↔ wp 52 1 [l0, .inl x, l2] [.inl x] h Q := wp_step dX6_write_0 (fun _ => rfl)
theorem s52_1  : wp 52 1 [l0, l1, l2] [.inl x] h Q ↔ if x < 0 then wp 52 14 [l0, l1, l2] [] h Q else wp 52 4 [l0, l1, l2] [] h Q := w_lt0 dX6_write_1 (by decide)
theorem s52_4  : wp 52 4 [l0, .inl x, l2] [] h Q ↔ wp 52 5 [l0, .inl x, l2] [.inl x] h Q := wp_step dX6_write_4 (fun _ => rfl)
theorem s52_5 (h0 : a ≠ 0) : wp 52 5 [.inr (.inl a), l1, l2] [v0] h Q ↔ wp 52 6 [.inr (.inl a), l1, l2] [.inr (.inl a), v0] h Q := wp_step dX6_write_5 (fun _ => if_neg h0)
theorem s52_6 (ha : tg a = 100) (hS : S.length ≤ 2048) : wp 52 6 [l0, l1, l2] [.inr (.inl a), v0] (hp S D) Q ↔ wp 52 7 [l0, l1, l2] [.inl (ln S a), v0] (hp S D) Q := w_len dX6_write_6 (by simp [ha]) (ln_lt hS a)
theorem s52_7  : wp 52 7 [l0, l1, l2] [.inl z, .inl x] h Q ↔ if x < z then wp 52 10 [l0, l1, l2] [] h Q else wp 52 14 [l0, l1, l2] [] h Q := w_cge dX6_write_7 (by decide)
theorem s52_10 (h0 : a ≠ 0) : wp 52 10 [.inr (.inl a), l1, l2] [] h Q ↔ wp 52 11 [.inr (.inl a), l1, l2] [.inr (.inl a)] h Q := wp_step dX6_write_10 (fun _ => if_neg h0)
theorem s52_11  : wp 52 11 [l0, .inl x, l2] [v0] h Q ↔ wp 52 12 [l0, .inl x, l2] [.inl x, v0] h Q := wp_step dX6_write_11 (fun _ => rfl)
theorem s52_12  : wp 52 12 [l0, l1, .inl x] [v0, v1] h Q ↔ wp 52 13 [l0, l1, .inl x] [.inl x, v0, v1] h Q := wp_step dX6_write_12 (fun _ => rfl)
theorem s52_13 (ha : tg a = 100) (h8 : 8 ≤ a) (h0 : 0 ≤ x) (h1 : x < ln S a) : wp 52 13 [l0, l1, l2] [.inl z, .inl x, .inr (.inl a)] (hp S D) Q ↔ wp 52 14 [l0, l1, l2] [] (hp S (up D a x.toNat z)) Q := w_iast dX6_write_13 ha h8 h0 h1
theorem s52_14  : wp 52 14 [l0, l1, l2] [] h Q ↔ Q none h := w_retv dX6_write_14 (by decide +kernel)
theorem s53_0 (h0 : a ≠ 0) : wp 53 0 [.inr (.inl a), l1] [] h Q ↔ wp 53 1 [.inr (.inl a), l1] [.inr (.inl a)] h Q := wp_step dX6_copy_0 (fun _ => if_neg h0)
theorem s53_1  : wp 53 1 [l0, l1] [v0] h Q ↔ wp 53 2 [l0, l1] [.inl 0, v0] h Q := w_const1 dX6_copy_1 k_0
theorem s53_2 (h0 : a ≠ 0) : wp 53 2 [l0, .inr (.inl a)] [v0, v1] h Q ↔ wp 53 3 [l0, .inr (.inl a)] [.inr (.inl a), v0, v1] h Q := wp_step dX6_copy_2 (fun _ => if_neg h0)
theorem s53_3  : wp 53 3 [l0, l1] [v0, v1, v2] h Q ↔ wp 53 4 [l0, l1] [.inl 0, v0, v1, v2] h Q := w_const1 dX6_copy_3 k_0
theorem s53_4 (h0 : a ≠ 0) : wp 53 4 [.inr (.inl a), l1] [v0, v1, v2, v3] h Q ↔ wp 53 5 [.inr (.inl a), l1] [.inr (.inl a), v0, v1, v2, v3] h Q := wp_step dX6_copy_4 (fun _ => if_neg h0)
theorem s53_5 (ha : tg a = 100) (hS : S.length ≤ 2048) : wp 53 5 [l0, l1] [.inr (.inl a), v0, v1, v2, v3] (hp S D) Q ↔ wp 53 6 [l0, l1] [.inl (ln S a), v0, v1, v2, v3] (hp S D) Q := w_len dX6_copy_5 (by simp [ha]) (ln_lt hS a)
theorem s53_6 (h0 : a ≠ 0) : wp 53 6 [l0, .inr (.inl a)] [v0, v1, v2, v3, v4] h Q ↔ wp 53 7 [l0, .inr (.inl a)] [.inr (.inl a), v0, v1, v2, v3, v4] h Q := wp_step dX6_copy_6 (fun _ => if_neg h0)
theorem s53_7 (ha : tg a = 100) (hS : S.length ≤ 2048) : wp 53 7 [l0, l1] [.inr (.inl a), v0, v1, v2, v3, v4] (hp S D) Q ↔ wp 53 8 [l0, l1] [.inl (ln S a), v0, v1, v2, v3, v4] (hp S D) Q := w_len dX6_copy_7 (by simp [ha]) (ln_lt hS a)
theorem s53_8  : wp 53 8 [l0, l1] [.inl x1, .inl x0, v0, v1, v2, v3] h Q ↔ wp 100 0 [.inl x0, .inl x1] [] h (kont 53 11 [l0, l1] [v0, v1, v2, v3] Q) := w_callS (y2 := 100) (kd := 0) (vs := [.inl x0, .inl x1]) (st := [v0, v1, v2, v3]) dX6_copy_8 (by decide +kernel) (by decide) rfl (by decide +kernel) (Nat.le_of_ble_eq_true rfl) (eSm_4 (by simp))
theorem s53_14  : wp 53 14 [l0, l1] [] h Q ↔ Q none h := w_retv dX6_copy_14 (by decide +kernel)
end ESTEP
