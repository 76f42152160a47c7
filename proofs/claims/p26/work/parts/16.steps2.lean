section ESTEP
variable {l0 l1 l2 l3 l4 l5 l6 l7 l8 l9 v0 v1 v2 v3 v4 v5 v6 v7 p q p0 p1 p2 p3 : eV} {a a0 a1 a2 a3 : Nat} {x z x0 x1 x2 x3 x4 x5 : Int} {w w0 w1 w2 w3 : Int64} {h : eH} {Q : Option eV → eH → Prop} {S : List Int} {D : eD}
theorem s54_0 (h0 : a ≠ 0) : wp 54 0 [.inr (.inl a), l1] [] h Q ↔ wp 54 1 [.inr (.inl a), l1] [.inr (.inl a)] h Q := wp_step dX7_init_0 (fun _ => if_neg h0)
theorem s54_1 (h8 : 8 ≤ a) : wp 54 1 [l0, l1] [.inr (.inl a)] h Q ↔ wp 54 4 [l0, l1] [] h Q := w_callO dX7_init_1 (y2 := 0) (by decide +kernel) ⟨eSm_4 (by simp), by decide +kernel, by decide +kernel⟩ h8
theorem s54_4 (h0 : a ≠ 0) : wp 54 4 [.inr (.inl a), l1] [] h Q ↔ wp 54 5 [.inr (.inl a), l1] [.inr (.inl a)] h Q := wp_step dX7_init_4 (fun _ => if_neg h0)
theorem s54_5  : wp 54 5 [l0, l1] [v0] h Q ↔ wp 54 7 [l0, l1] [.inl 6, v0] h Q := w_const2 dX7_init_5 k_6 k8_6
theorem s54_13  : wp 54 13 [l0, l1] [] h Q ↔ wp 54 14 [l0, l1] [.inl 0] h Q := w_const1 dX7_init_13 k_0
theorem s54_14  : wp 54 14 [l0, l1] [.inl x] h Q ↔ wp 54 15 [l0, .inl x] [] h Q := wp_step dX7_init_14 (fun _ => rfl)
theorem s54_15  : wp 54 15 [l0, .inl x] [] h Q ↔ wp 54 16 [l0, .inl x] [.inl x] h Q := wp_step dX7_init_15 (fun _ => rfl)
theorem s54_16 (h0 : a ≠ 0) : wp 54 16 [.inr (.inl a), l1] [v0] h Q ↔ wp 54 17 [.inr (.inl a), l1] [.inr (.inl a), v0] h Q := wp_step dX7_init_16 (fun _ => if_neg h0)
theorem s54_21  : wp 54 21 [l0, l1] [.inl z, .inl x] h Q ↔ if x < z then wp 54 24 [l0, l1] [] h Q else wp 54 43 [l0, l1] [] h Q := w_cge dX7_init_21 (by decide)
theorem s54_24 (h0 : a ≠ 0) : wp 54 24 [.inr (.inl a), l1] [] h Q ↔ wp 54 25 [.inr (.inl a), l1] [.inr (.inl a)] h Q := wp_step dX7_init_24 (fun _ => if_neg h0)
theorem s54_28  : wp 54 28 [l0, .inl x] [v0] h Q ↔ wp 54 29 [l0, .inl x] [.inl x, v0] h Q := wp_step dX7_init_28 (fun _ => rfl)
theorem s54_32  : wp 54 32 [l0, l1] [.inr (.inl a0), v0, v1] h Q ↔ wp 54 33 [l0, l1] [.inr (.inl a0), .inr (.inl a0), v0, v1] h Q := wp_step dX7_init_32 (fun _ => rfl)
theorem s54_33 (h8 : 8 ≤ a) : wp 54 33 [l0, l1] [.inr (.inl a), v0, v1, v2] h Q ↔ wp 23 0 [.inr (.inl a)] [] h (kont 54 36 [l0, l1] [v0, v1, v2] Q) := w_callI (y2 := 23) (vs := []) (st := [v0, v1, v2]) dX7_init_33 (by decide +kernel) rfl (by decide +kernel) (Nat.le_of_ble_eq_true rfl) (eSm_4 (by simp)) h8
theorem s54_37  : wp 54 37 [l0, .inl x] [] h Q ↔ wp 54 40 [l0, .inl (w32 (x + 1))] [] h Q := wp_step dX7_init_37 (fun _ => rfl)
theorem s54_40  : wp 54 40 [l0, l1] [] h Q ↔ wp 54 15 [l0, l1] [] h Q := w_goto dX7_init_40 (by decide)
theorem s54_43 (h0 : a ≠ 0) : wp 54 43 [.inr (.inl a), l1] [] h Q ↔ wp 54 44 [.inr (.inl a), l1] [.inr (.inl a)] h Q := wp_step dX7_init_43 (fun _ => if_neg h0)
theorem s54_47  : wp 54 47 [l0, l1] [.inr (.inl a0), v0] h Q ↔ wp 54 48 [l0, l1] [.inr (.inl a0), .inr (.inl a0), v0] h Q := wp_step dX7_init_47 (fun _ => rfl)
theorem s54_48 (h8 : 8 ≤ a) : wp 54 48 [l0, l1] [.inr (.inl a), v0, v1] h Q ↔ wp 23 0 [.inr (.inl a)] [] h (kont 54 51 [l0, l1] [v0, v1] Q) := w_callI (y2 := 23) (vs := []) (st := [v0, v1]) dX7_init_48 (by decide +kernel) rfl (by decide +kernel) (Nat.le_of_ble_eq_true rfl) (eSm_4 (by simp)) h8
theorem s54_54 (h0 : a ≠ 0) : wp 54 54 [.inr (.inl a), l1] [] h Q ↔ wp 54 55 [.inr (.inl a), l1] [.inr (.inl a)] h Q := wp_step dX7_init_54 (fun _ => if_neg h0)
theorem s54_55  : wp 54 55 [l0, l1] [v0] h Q ↔ wp 54 57 [l0, l1] [.inl (-5), v0] h Q := w_const2 dX7_init_55 k_m5 k8_m5
theorem s54_60  : wp 54 60 [l0, l1] [] h Q ↔ Q none h := w_retv dX7_init_60 (by decide +kernel)
theorem s55_0  : wp 55 0 [l0, l1, l2] [] h Q ↔ wp 55 1 [l0, l1, l2] [.inl 0] h Q := w_const1 dX7_copyFrom_0 k_0
theorem s55_1  : wp 55 1 [l0, l1, l2] [.inl x] h Q ↔ wp 55 2 [l0, l1, .inl x] [] h Q := wp_step dX7_copyFrom_1 (fun _ => rfl)
theorem s55_2  : wp 55 2 [l0, l1, .inl x] [] h Q ↔ wp 55 3 [l0, l1, .inl x] [.inl x] h Q := wp_step dX7_copyFrom_2 (fun _ => rfl)
theorem s55_3  : wp 55 3 [l0, l1, l2] [v0] h Q ↔ wp 55 5 [l0, l1, l2] [.inl 6, v0] h Q := w_const2 dX7_copyFrom_3 k_6 k8_6
theorem s55_5  : wp 55 5 [l0, l1, l2] [.inl z, .inl x] h Q ↔ if x < z then wp 55 8 [l0, l1, l2] [] h Q else wp 55 27 [l0, l1, l2] [] h Q := w_cge dX7_copyFrom_5 (by decide)
theorem s55_8 (h0 : a ≠ 0) : wp 55 8 [.inr (.inl a), l1, l2] [] h Q ↔ wp 55 9 [.inr (.inl a), l1, l2] [.inr (.inl a)] h Q := wp_step dX7_copyFrom_8 (fun _ => if_neg h0)
theorem s55_9  : wp 55 9 [l0, l1, .inl x] [v0] h Q ↔ wp 55 10 [l0, l1, .inl x] [.inl x, v0] h Q := wp_step dX7_copyFrom_9 (fun _ => rfl)
theorem s55_10 (ha : tg a = 6) : wp 55 10 [l0, l1, l2] [.inl x0, .inr (.inl a)] (hp S D) Q ↔ wp 56 0 [.inr (.inl a), .inl x0, .inr (.inl 0)] [] (hp S D) (kont 55 13 [l0, l1, l2] [] Q) := w_callV (y2 := 56) (vs := [.inl x0]) (st := []) dX7_copyFrom_10 (by decide +kernel) rfl (by decide +kernel) (Nat.le_of_ble_eq_true rfl) (eSm_4 (by simp)) 6 rfl (by decide) ha
theorem s55_13 (h0 : a ≠ 0) : wp 55 13 [l0, .inr (.inl a), l2] [v0] h Q ↔ wp 55 14 [l0, .inr (.inl a), l2] [.inr (.inl a), v0] h Q := wp_step dX7_copyFrom_13 (fun _ => if_neg h0)
theorem s55_14  : wp 55 14 [l0, l1, .inl x] [v0, v1] h Q ↔ wp 55 15 [l0, l1, .inl x] [.inl x, v0, v1] h Q := wp_step dX7_copyFrom_14 (fun _ => rfl)
theorem s55_15 (ha : tg a = 6) : wp 55 15 [l0, l1, l2] [.inl x0, .inr (.inl a), v0] (hp S D) Q ↔ wp 56 0 [.inr (.inl a), .inl x0, .inr (.inl 0)] [] (hp S D) (kont 55 18 [l0, l1, l2] [v0] Q) := w_callV (y2 := 56) (vs := [.inl x0]) (st := [v0]) dX7_copyFrom_15 (by decide +kernel) rfl (by decide +kernel) (Nat.le_of_ble_eq_true rfl) (eSm_4 (by simp)) 6 rfl (by decide) ha
theorem s55_18 (ha : tg a = 3) : wp 55 18 [l0, l1, l2] [.inr (.inl a0), .inr (.inl a)] (hp S D) Q ↔ wp 26 0 [.inr (.inl a), .inr (.inl a0)] [] (hp S D) (kont 55 21 [l0, l1, l2] [] Q) := w_callV (y2 := 26) (vs := [.inr (.inl a0)]) (st := []) dX7_copyFrom_18 (by decide +kernel) rfl (by decide +kernel) (Nat.le_of_ble_eq_true rfl) (eSm_4 (by simp)) 3 rfl (by decide) ha
theorem s55_21  : wp 55 21 [l0, l1, .inl x] [] h Q ↔ wp 55 24 [l0, l1, .inl (w32 (x + 1))] [] h Q := wp_step dX7_copyFrom_21 (fun _ => rfl)
theorem s55_24  : wp 55 24 [l0, l1, l2] [] h Q ↔ wp 55 2 [l0, l1, l2] [] h Q := w_goto dX7_copyFrom_24 (by decide)
theorem s55_27 (h0 : a ≠ 0) : wp 55 27 [.inr (.inl a), l1, l2] [] h Q ↔ wp 55 28 [.inr (.inl a), l1, l2] [.inr (.inl a)] h Q := wp_step dX7_copyFrom_27 (fun _ => if_neg h0)
theorem s55_28 (h0 : a ≠ 0) : wp 55 28 [l0, .inr (.inl a), l2] [v0] h Q ↔ wp 55 29 [l0, .inr (.inl a), l2] [.inr (.inl a), v0] h Q := wp_step dX7_copyFrom_28 (fun _ => if_neg h0)
theorem s55_29 (ha : tg a = 6) : wp 55 29 [l0, l1, l2] [.inr (.inl a), v0] (hp S D) Q ↔ wp 55 32 [l0, l1, l2] [.inl (D a 2), v0] (hp S D) Q := w_getI dX7_copyFrom_29 (t := 6) (j := 2) (c := 0) (by decide +kernel) (by decide) rfl (ln_ok (by decide) (by decide)) ha
theorem s55_32 (ha : tg a = 6) : wp 55 32 [l0, l1, l2] [.inl z, .inr (.inl a)] (hp S D) Q ↔ wp 55 35 [l0, l1, l2] [] (hp S (up D a 2 z)) Q := w_put dX7_copyFrom_32 (t := 6) (j := 2) (c := 0) (by decide +kernel) (by decide +kernel) (by decide) rfl (ln_ok (by decide) (by decide)) (Or.inl rfl) ha
theorem s55_35 (h0 : a ≠ 0) : wp 55 35 [.inr (.inl a), l1, l2] [] h Q ↔ wp 55 36 [.inr (.inl a), l1, l2] [.inr (.inl a)] h Q := wp_step dX7_copyFrom_35 (fun _ => if_neg h0)
theorem s55_36 (h0 : a ≠ 0) : wp 55 36 [l0, .inr (.inl a), l2] [v0] h Q ↔ wp 55 37 [l0, .inr (.inl a), l2] [.inr (.inl a), v0] h Q := wp_step dX7_copyFrom_36 (fun _ => if_neg h0)
theorem s55_37 (ha : tg a = 6) : wp 55 37 [l0, l1, l2] [.inr (.inl a), v0] (hp S D) Q ↔ wp 55 40 [l0, l1, l2] [.inl (D a 3), v0] (hp S D) Q := w_getI dX7_copyFrom_37 (t := 6) (j := 3) (c := 0) (by decide +kernel) (by decide) rfl (ln_ok (by decide) (by decide)) ha
theorem s55_40 (ha : tg a = 6) : wp 55 40 [l0, l1, l2] [.inl z, .inr (.inl a)] (hp S D) Q ↔ wp 55 43 [l0, l1, l2] [] (hp S (up D a 3 z)) Q := w_put dX7_copyFrom_40 (t := 6) (j := 3) (c := 0) (by decide +kernel) (by decide +kernel) (by decide) rfl (ln_ok (by decide) (by decide)) (Or.inl rfl) ha
theorem s55_43 (h0 : a ≠ 0) : wp 55 43 [.inr (.inl a), l1, l2] [] h Q ↔ wp 55 44 [.inr (.inl a), l1, l2] [.inr (.inl a)] h Q := wp_step dX7_copyFrom_43 (fun _ => if_neg h0)
theorem s55_44 (h0 : a ≠ 0) : wp 55 44 [l0, .inr (.inl a), l2] [v0] h Q ↔ wp 55 45 [l0, .inr (.inl a), l2] [.inr (.inl a), v0] h Q := wp_step dX7_copyFrom_44 (fun _ => if_neg h0)
theorem s55_45 (ha : tg a = 6) : wp 55 45 [l0, l1, l2] [.inr (.inl a), v0] (hp S D) Q ↔ wp 55 48 [l0, l1, l2] [.inl (D a 4), v0] (hp S D) Q := w_getI dX7_copyFrom_45 (t := 6) (j := 4) (c := 0) (by decide +kernel) (by decide) rfl (ln_ok (by decide) (by decide)) ha
theorem s55_48 (ha : tg a = 6) : wp 55 48 [l0, l1, l2] [.inl z, .inr (.inl a)] (hp S D) Q ↔ wp 55 51 [l0, l1, l2] [] (hp S (up D a 4 z)) Q := w_put dX7_copyFrom_48 (t := 6) (j := 4) (c := 0) (by decide +kernel) (by decide +kernel) (by decide) rfl (ln_ok (by decide) (by decide)) (Or.inl rfl) ha
theorem s55_51 (h0 : a ≠ 0) : wp 55 51 [.inr (.inl a), l1, l2] [] h Q ↔ wp 55 52 [.inr (.inl a), l1, l2] [.inr (.inl a)] h Q := wp_step dX7_copyFrom_51 (fun _ => if_neg h0)
theorem s55_52 (h0 : a ≠ 0) : wp 55 52 [l0, .inr (.inl a), l2] [v0] h Q ↔ wp 55 53 [l0, .inr (.inl a), l2] [.inr (.inl a), v0] h Q := wp_step dX7_copyFrom_52 (fun _ => if_neg h0)
theorem s55_53 (ha : tg a = 6) : wp 55 53 [l0, l1, l2] [.inr (.inl a), v0] (hp S D) Q ↔ wp 55 56 [l0, l1, l2] [.inl (D a 5), v0] (hp S D) Q := w_getI dX7_copyFrom_53 (t := 6) (j := 5) (c := 1) (by decide +kernel) (by decide) rfl (ln_ok (by decide) (by decide)) ha
theorem s55_56 (ha : tg a = 6) (hv : z = 0 ∨ z = 1) : wp 55 56 [l0, l1, l2] [.inl z, .inr (.inl a)] (hp S D) Q ↔ wp 55 59 [l0, l1, l2] [] (hp S (up D a 5 z)) Q := w_put dX7_copyFrom_56 (t := 6) (j := 5) (c := 1) (by decide +kernel) (by decide +kernel) (by decide) rfl (ln_ok (by decide) (by decide)) (Or.inr ⟨rfl, hv⟩) ha
theorem s55_59  : wp 55 59 [l0, l1, l2] [] h Q ↔ Q none h := w_retv dX7_copyFrom_59 (by decide +kernel)
theorem s56_0  : wp 56 0 [l0, .inl x, l2] [] h Q ↔ wp 56 1 [l0, .inl x, l2] [.inl x] h Q := wp_step dX7_lampAt_0 (fun _ => rfl)
theorem s56_1  : wp 56 1 [l0, l1, l2] [.inl x] h Q ↔ if x < 0 then wp 56 13 [l0, l1, l2] [] h Q else wp 56 4 [l0, l1, l2] [] h Q := w_lt0 dX7_lampAt_1 (by decide)
theorem s56_4  : wp 56 4 [l0, .inl x, l2] [] h Q ↔ wp 56 5 [l0, .inl x, l2] [.inl x] h Q := wp_step dX7_lampAt_4 (fun _ => rfl)
theorem s56_5 (h0 : a ≠ 0) : wp 56 5 [.inr (.inl a), l1, l2] [v0] h Q ↔ wp 56 6 [.inr (.inl a), l1, l2] [.inr (.inl a), v0] h Q := wp_step dX7_lampAt_5 (fun _ => if_neg h0)
theorem s56_6 (ha : tg a = 6) : wp 56 6 [l0, l1, l2] [.inr (.inl a), v0] (hp S D) Q ↔ wp 56 9 [l0, l1, l2] [.inr (.inl (a + 1)), v0] (hp S D) Q := w_getR dX7_lampAt_6 (t := 6) (j := 0) (c := 2) (by decide +kernel) (by decide) rfl (ln_ok (by decide) (by decide)) ha
theorem s56_9 (ha : tg a = 102) (hS : S.length ≤ 2048) : wp 56 9 [l0, l1, l2] [.inr (.inl a), v0] (hp S D) Q ↔ wp 56 10 [l0, l1, l2] [.inl (ln S a), v0] (hp S D) Q := w_len dX7_lampAt_9 (by simp [ha]) (ln_lt hS a)
theorem s56_10  : wp 56 10 [l0, l1, l2] [.inl z, .inl x] h Q ↔ if x < z then wp 56 18 [l0, l1, l2] [] h Q else wp 56 13 [l0, l1, l2] [] h Q := w_clt dX7_lampAt_10 (by decide)
theorem s56_13 (h0 : a ≠ 0) : wp 56 13 [.inr (.inl a), l1, l2] [] h Q ↔ wp 56 14 [.inr (.inl a), l1, l2] [.inr (.inl a)] h Q := wp_step dX7_lampAt_13 (fun _ => if_neg h0)
theorem s56_14 (ha : tg a = 6) : wp 56 14 [l0, l1, l2] [.inr (.inl a)] (hp S D) Q ↔ wp 56 17 [l0, l1, l2] [.inr (.inl (a + 8))] (hp S D) Q := w_getR dX7_lampAt_14 (t := 6) (j := 1) (c := 2) (by decide +kernel) (by decide) rfl (ln_ok (by decide) (by decide)) ha
theorem s56_17 (h0 : a ≠ 0) : wp 56 17 [l0, l1, l2] [.inr (.inl a)] h Q ↔ Q (some (.inr (.inl a))) h := w_reta dX7_lampAt_17 (by decide +kernel) h0
theorem s56_18 (h0 : a ≠ 0) : wp 56 18 [.inr (.inl a), l1, l2] [] h Q ↔ wp 56 19 [.inr (.inl a), l1, l2] [.inr (.inl a)] h Q := wp_step dX7_lampAt_18 (fun _ => if_neg h0)
theorem s56_19 (ha : tg a = 6) : wp 56 19 [l0, l1, l2] [.inr (.inl a)] (hp S D) Q ↔ wp 56 22 [l0, l1, l2] [.inr (.inl (a + 1))] (hp S D) Q := w_getR dX7_lampAt_19 (t := 6) (j := 0) (c := 2) (by decide +kernel) (by decide) rfl (ln_ok (by decide) (by decide)) ha
theorem s56_22  : wp 56 22 [l0, .inl x, l2] [v0] h Q ↔ wp 56 23 [l0, .inl x, l2] [.inl x, v0] h Q := wp_step dX7_lampAt_22 (fun _ => rfl)
theorem s56_23 (ha : tg a = 102) (h0 : 0 ≤ x) (h1 : x < ln S a) : wp 56 23 [l0, l1, l2] [.inl x, .inr (.inl a)] (hp S D) Q ↔ wp 56 24 [l0, l1, l2] [.inr (.inl (a + (1 + x.toNat)))] (hp S D) Q := by rw [w_aald (y := 56) dX7_lampAt_23 (by simp [ha]) h0 h1]; simp [ha]
theorem s56_24 (h0 : a ≠ 0) : wp 56 24 [l0, l1, l2] [.inr (.inl a)] h Q ↔ wp 56 25 [l0, l1, .inr (.inl a)] [] h Q := wp_step dX7_lampAt_24 (fun _ => (if_neg h0).trans rfl)
theorem s56_25 (h0 : a ≠ 0) : wp 56 25 [l0, l1, .inr (.inl a)] [] h Q ↔ wp 56 26 [l0, l1, .inr (.inl a)] [.inr (.inl a)] h Q := wp_step dX7_lampAt_25 (fun _ => if_neg h0)
theorem s56_26 (h0 : a ≠ 0) : wp 56 26 [l0, l1, l2] [.inr (.inl a)] h Q ↔ wp 56 36 [l0, l1, l2] [] h Q := w_nnull dX7_lampAt_26 (by decide) h0
theorem s56_29 (h0 : a ≠ 0) : wp 56 29 [.inr (.inl a), l1, l2] [] h Q ↔ wp 56 30 [.inr (.inl a), l1, l2] [.inr (.inl a)] h Q := wp_step dX7_lampAt_29 (fun _ => if_neg h0)
theorem s56_30 (ha : tg a = 6) : wp 56 30 [l0, l1, l2] [.inr (.inl a)] (hp S D) Q ↔ wp 56 33 [l0, l1, l2] [.inr (.inl (a + 8))] (hp S D) Q := w_getR dX7_lampAt_30 (t := 6) (j := 1) (c := 2) (by decide +kernel) (by decide) rfl (ln_ok (by decide) (by decide)) ha
theorem s56_33  : wp 56 33 [l0, l1, l2] [v0] h Q ↔ wp 56 37 [l0, l1, l2] [v0] h Q := w_goto dX7_lampAt_33 (by decide)
theorem s56_36 (h0 : a ≠ 0) : wp 56 36 [l0, l1, .inr (.inl a)] [] h Q ↔ wp 56 37 [l0, l1, .inr (.inl a)] [.inr (.inl a)] h Q := wp_step dX7_lampAt_36 (fun _ => if_neg h0)
theorem s56_37 (h0 : a ≠ 0) : wp 56 37 [l0, l1, l2] [.inr (.inl a)] h Q ↔ Q (some (.inr (.inl a))) h := w_reta dX7_lampAt_37 (by decide +kernel) h0
theorem s57_0 (h0 : a ≠ 0) : wp 57 0 [.inr (.inl a), l1] [] h Q ↔ wp 57 1 [.inr (.inl a), l1] [.inr (.inl a)] h Q := wp_step dX7_burnsAt_0 (fun _ => if_neg h0)
theorem s57_1 (ha : tg a = 6) : wp 57 1 [l0, l1] [.inr (.inl a)] (hp S D) Q ↔ wp 57 4 [l0, l1] [.inl (D a 5)] (hp S D) Q := w_getI dX7_burnsAt_1 (t := 6) (j := 5) (c := 1) (by decide +kernel) (by decide) rfl (ln_ok (by decide) (by decide)) ha
theorem s57_4  : wp 57 4 [l0, l1] [.inl x] h Q ↔ if x = 0 then wp 57 19 [l0, l1] [] h Q else wp 57 7 [l0, l1] [] h Q := w_eq0 dX7_burnsAt_4 (by decide)
theorem s57_7 (h0 : a ≠ 0) : wp 57 7 [.inr (.inl a), l1] [] h Q ↔ wp 57 8 [.inr (.inl a), l1] [.inr (.inl a)] h Q := wp_step dX7_burnsAt_7 (fun _ => if_neg h0)
theorem s57_8 (ha : tg a = 6) : wp 57 8 [l0, l1] [.inr (.inl a)] (hp S D) Q ↔ wp 57 11 [l0, l1] [.inl (D a 2)] (hp S D) Q := w_getI dX7_burnsAt_8 (t := 6) (j := 2) (c := 0) (by decide +kernel) (by decide) rfl (ln_ok (by decide) (by decide)) ha
theorem s57_11  : wp 57 11 [l0, .inl x] [v0] h Q ↔ wp 57 12 [l0, .inl x] [.inl x, v0] h Q := wp_step dX7_burnsAt_11 (fun _ => rfl)
theorem s57_12  : wp 57 12 [l0, l1] [.inl z, .inl x] h Q ↔ if x = z then wp 57 15 [l0, l1] [] h Q else wp 57 19 [l0, l1] [] h Q := w_cne dX7_burnsAt_12 (by decide)
theorem s57_15  : wp 57 15 [l0, l1] [] h Q ↔ wp 57 16 [l0, l1] [.inl 1] h Q := w_const1 dX7_burnsAt_15 k_1
theorem s57_16  : wp 57 16 [l0, l1] [v0] h Q ↔ wp 57 20 [l0, l1] [v0] h Q := w_goto dX7_burnsAt_16 (by decide)
theorem s57_19  : wp 57 19 [l0, l1] [] h Q ↔ wp 57 20 [l0, l1] [.inl 0] h Q := w_const1 dX7_burnsAt_19 k_0
theorem s57_20 (h0 : x = 0 ∨ x = 1) : wp 57 20 [l0, l1] [.inl x] h Q ↔ Q (some (.inl x)) h := w_reti dX7_burnsAt_20 (e_rz (by decide +kernel) h0)
theorem s58_0 (h0 : a ≠ 0) : wp 58 0 [.inr (.inl a)] [] h Q ↔ wp 58 1 [.inr (.inl a)] [.inr (.inl a)] h Q := wp_step dX7_isTurning_0 (fun _ => if_neg h0)
theorem s58_1 (ha : tg a = 6) : wp 58 1 [l0] [.inr (.inl a)] (hp S D) Q ↔ wp 58 4 [l0] [.inl (D a 3)] (hp S D) Q := w_getI dX7_isTurning_1 (t := 6) (j := 3) (c := 0) (by decide +kernel) (by decide) rfl (ln_ok (by decide) (by decide)) ha
theorem s58_4  : wp 58 4 [l0] [v0] h Q ↔ wp 58 6 [l0] [.inl (-5), v0] h Q := w_const2 dX7_isTurning_4 k_m5 k8_m5
theorem s58_6  : wp 58 6 [l0] [.inl z, .inl x] h Q ↔ if x = z then wp 58 13 [l0] [] h Q else wp 58 9 [l0] [] h Q := w_ceq dX7_isTurning_6 (by decide)
theorem s58_9  : wp 58 9 [l0] [] h Q ↔ wp 58 10 [l0] [.inl 1] h Q := w_const1 dX7_isTurning_9 k_1
theorem s58_10  : wp 58 10 [l0] [v0] h Q ↔ wp 58 14 [l0] [v0] h Q := w_goto dX7_isTurning_10 (by decide)
theorem s58_13  : wp 58 13 [l0] [] h Q ↔ wp 58 14 [l0] [.inl 0] h Q := w_const1 dX7_isTurning_13 k_0
theorem s58_14 (h0 : x = 0 ∨ x = 1) : wp 58 14 [l0] [.inl x] h Q ↔ Q (some (.inl x)) h := w_reti dX7_isTurning_14 (e_rz (by decide +kernel) h0)
theorem s59_0 (h0 : a ≠ 0) : wp 59 0 [.inr (.inl a), l1, l2] [] h Q ↔ wp 59 1 [.inr (.inl a), l1, l2] [.inr (.inl a)] h Q := wp_step dX7_startTurn_0 (fun _ => if_neg h0)
theorem s59_1  : wp 59 1 [l0, l1, l2] [v0] h Q ↔ wp 59 2 [l0, l1, l2] [.inl 0, v0] h Q := w_const1 dX7_startTurn_1 k_0
theorem s59_2 (ha : tg a = 6) (hv : z = 0 ∨ z = 1) : wp 59 2 [l0, l1, l2] [.inl z, .inr (.inl a)] (hp S D) Q ↔ wp 59 5 [l0, l1, l2] [] (hp S (up D a 5 z)) Q := w_put dX7_startTurn_2 (t := 6) (j := 5) (c := 1) (by decide +kernel) (by decide +kernel) (by decide) rfl (ln_ok (by decide) (by decide)) (Or.inr ⟨rfl, hv⟩) ha
theorem s59_5 (h0 : a ≠ 0) : wp 59 5 [.inr (.inl a), l1, l2] [] h Q ↔ wp 59 6 [.inr (.inl a), l1, l2] [.inr (.inl a)] h Q := wp_step dX7_startTurn_5 (fun _ => if_neg h0)
theorem s59_6  : wp 59 6 [l0, .inl x, l2] [v0] h Q ↔ wp 59 7 [l0, .inl x, l2] [.inl x, v0] h Q := wp_step dX7_startTurn_6 (fun _ => rfl)
theorem s59_7 (ha : tg a = 6) : wp 59 7 [l0, l1, l2] [.inl z, .inr (.inl a)] (hp S D) Q ↔ wp 59 10 [l0, l1, l2] [] (hp S (up D a 3 z)) Q := w_put dX7_startTurn_7 (t := 6) (j := 3) (c := 0) (by decide +kernel) (by decide +kernel) (by decide) rfl (ln_ok (by decide) (by decide)) (Or.inl rfl) ha
theorem s59_10 (h0 : a ≠ 0) : wp 59 10 [.inr (.inl a), l1, l2] [] h Q ↔ wp 59 11 [.inr (.inl a), l1, l2] [.inr (.inl a)] h Q := wp_step dX7_startTurn_10 (fun _ => if_neg h0)
theorem s59_11  : wp 59 11 [l0, .inl x, l2] [v0] h Q ↔ wp 59 12 [l0, .inl x, l2] [.inl x, v0] h Q := wp_step dX7_startTurn_11 (fun _ => rfl)
theorem s59_12 (h0 : a ≠ 0) : wp 59 12 [.inr (.inl a), l1, l2] [v0, v1] h Q ↔ wp 59 13 [.inr (.inl a), l1, l2] [.inr (.inl a), v0, v1] h Q := wp_step dX7_startTurn_12 (fun _ => if_neg h0)
theorem s59_13 (ha : tg a = 6) : wp 59 13 [l0, l1, l2] [.inr (.inl a), v0, v1] (hp S D) Q ↔ wp 59 16 [l0, l1, l2] [.inl (D a 2), v0, v1] (hp S D) Q := w_getI dX7_startTurn_13 (t := 6) (j := 2) (c := 0) (by decide +kernel) (by decide) rfl (ln_ok (by decide) (by decide)) ha
theorem s59_16  : wp 59 16 [l0, l1, l2] [.inl z, .inl x, v0] h Q ↔ wp 59 17 [l0, l1, l2] [.inl (w32 (x - z)), v0] h Q := wp_step dX7_startTurn_16 (fun _ => rfl)
theorem s59_17  : wp 59 17 [l0, l1, l2] [v0, v1] h Q ↔ wp 59 19 [l0, l1, l2] [.inl 6, v0, v1] h Q := w_const2 dX7_startTurn_17 k_6 k8_6
theorem s59_19  : wp 59 19 [l0, l1, l2] [.inl x1, .inl x0, v0] h Q ↔ wp 98 0 [.inl x0, .inl x1, .inr (.inl 0)] [] h (kont 59 22 [l0, l1, l2] [v0] Q) := w_callS (y2 := 98) (kd := 0) (vs := [.inl x0, .inl x1]) (st := [v0]) dX7_startTurn_19 (by decide +kernel) (by decide) rfl (by decide +kernel) (Nat.le_of_ble_eq_true rfl) (eSm_4 (by simp))
theorem s59_22  : wp 59 22 [l0, l1, .inl x] [v0, v1] h Q ↔ wp 59 23 [l0, l1, .inl x] [.inl x, v0, v1] h Q := wp_step dX7_startTurn_22 (fun _ => rfl)
theorem s59_23  : wp 59 23 [l0, l1, l2] [.inl z, .inl x, v0] h Q ↔ wp 59 24 [l0, l1, l2] [.inl (w32 (x * z)), v0] h Q := wp_step dX7_startTurn_23 (fun _ => rfl)
theorem s59_24 (ha : tg a = 6) : wp 59 24 [l0, l1, l2] [.inl z, .inr (.inl a)] (hp S D) Q ↔ wp 59 27 [l0, l1, l2] [] (hp S (up D a 4 z)) Q := w_put dX7_startTurn_24 (t := 6) (j := 4) (c := 0) (by decide +kernel) (by decide +kernel) (by decide) rfl (ln_ok (by decide) (by decide)) (Or.inl rfl) ha
theorem s59_27  : wp 59 27 [l0, l1, l2] [] h Q ↔ Q none h := w_retv dX7_startTurn_27 (by decide +kernel)
theorem s60_0 (h0 : a ≠ 0) : wp 60 0 [.inr (.inl a)] [] h Q ↔ wp 60 1 [.inr (.inl a)] [.inr (.inl a)] h Q := wp_step dX7_goOn_0 (fun _ => if_neg h0)
theorem s60_1 (ha : tg a = 6) : wp 60 1 [l0] [.inr (.inl a)] (hp S D) Q ↔ wp 58 0 [.inr (.inl a)] [] (hp S D) (kont 60 4 [l0] [] Q) := w_callV (y2 := 58) (vs := []) (st := []) dX7_goOn_1 (by decide +kernel) rfl (by decide +kernel) (Nat.le_of_ble_eq_true rfl) (eSm_4 (by simp)) 6 rfl (by decide) ha
theorem s60_4  : wp 60 4 [l0] [.inl x] h Q ↔ if x = 0 then wp 60 7 [l0] [] h Q else wp 60 8 [l0] [] h Q := w_ne0 dX7_goOn_4 (by decide)
theorem s60_7  : wp 60 7 [l0] [] h Q ↔ Q none h := w_retv dX7_goOn_7 (by decide +kernel)
theorem s60_8 (h0 : a ≠ 0) : wp 60 8 [.inr (.inl a)] [] h Q ↔ wp 60 9 [.inr (.inl a)] [.inr (.inl a)] h Q := wp_step dX7_goOn_8 (fun _ => if_neg h0)
theorem s60_9  : wp 60 9 [l0] [.inr (.inl a0)] h Q ↔ wp 60 10 [l0] [.inr (.inl a0), .inr (.inl a0)] h Q := wp_step dX7_goOn_9 (fun _ => rfl)
theorem s60_10 (ha : tg a = 6) : wp 60 10 [l0] [.inr (.inl a), v0] (hp S D) Q ↔ wp 60 13 [l0] [.inl (D a 4), v0] (hp S D) Q := w_getI dX7_goOn_10 (t := 6) (j := 4) (c := 0) (by decide +kernel) (by decide) rfl (ln_ok (by decide) (by decide)) ha
theorem s60_13  : wp 60 13 [l0] [v0, v1] h Q ↔ wp 60 14 [l0] [.inl 1, v0, v1] h Q := w_const1 dX7_goOn_13 k_1
theorem s60_14  : wp 60 14 [l0] [.inl z, .inl x, v0] h Q ↔ wp 60 15 [l0] [.inl (w32 (x - z)), v0] h Q := wp_step dX7_goOn_14 (fun _ => rfl)
theorem s60_15 (ha : tg a = 6) : wp 60 15 [l0] [.inl z, .inr (.inl a)] (hp S D) Q ↔ wp 60 18 [l0] [] (hp S (up D a 4 z)) Q := w_put dX7_goOn_15 (t := 6) (j := 4) (c := 0) (by decide +kernel) (by decide +kernel) (by decide) rfl (ln_ok (by decide) (by decide)) (Or.inl rfl) ha
theorem s60_18 (h0 : a ≠ 0) : wp 60 18 [.inr (.inl a)] [] h Q ↔ wp 60 19 [.inr (.inl a)] [.inr (.inl a)] h Q := wp_step dX7_goOn_18 (fun _ => if_neg h0)
theorem s60_19 (ha : tg a = 6) : wp 60 19 [l0] [.inr (.inl a)] (hp S D) Q ↔ wp 60 22 [l0] [.inl (D a 4)] (hp S D) Q := w_getI dX7_goOn_19 (t := 6) (j := 4) (c := 0) (by decide +kernel) (by decide) rfl (ln_ok (by decide) (by decide)) ha
theorem s60_22  : wp 60 22 [l0] [.inl x] h Q ↔ if 0 < x then wp 60 44 [l0] [] h Q else wp 60 25 [l0] [] h Q := w_gt0 dX7_goOn_22 (by decide)
theorem s60_25 (h0 : a ≠ 0) : wp 60 25 [.inr (.inl a)] [] h Q ↔ wp 60 26 [.inr (.inl a)] [.inr (.inl a)] h Q := wp_step dX7_goOn_25 (fun _ => if_neg h0)
theorem s60_26  : wp 60 26 [l0] [v0] h Q ↔ wp 60 27 [l0] [.inl 0, v0] h Q := w_const1 dX7_goOn_26 k_0
theorem s60_27 (ha : tg a = 6) : wp 60 27 [l0] [.inl z, .inr (.inl a)] (hp S D) Q ↔ wp 60 30 [l0] [] (hp S (up D a 4 z)) Q := w_put dX7_goOn_27 (t := 6) (j := 4) (c := 0) (by decide +kernel) (by decide +kernel) (by decide) rfl (ln_ok (by decide) (by decide)) (Or.inl rfl) ha
theorem s60_30 (h0 : a ≠ 0) : wp 60 30 [.inr (.inl a)] [] h Q ↔ wp 60 31 [.inr (.inl a)] [.inr (.inl a)] h Q := wp_step dX7_goOn_30 (fun _ => if_neg h0)
theorem s60_31 (h0 : a ≠ 0) : wp 60 31 [.inr (.inl a)] [v0] h Q ↔ wp 60 32 [.inr (.inl a)] [.inr (.inl a), v0] h Q := wp_step dX7_goOn_31 (fun _ => if_neg h0)
theorem s60_32 (ha : tg a = 6) : wp 60 32 [l0] [.inr (.inl a), v0] (hp S D) Q ↔ wp 60 35 [l0] [.inl (D a 3), v0] (hp S D) Q := w_getI dX7_goOn_32 (t := 6) (j := 3) (c := 0) (by decide +kernel) (by decide) rfl (ln_ok (by decide) (by decide)) ha
theorem s60_35 (ha : tg a = 6) : wp 60 35 [l0] [.inl z, .inr (.inl a)] (hp S D) Q ↔ wp 60 38 [l0] [] (hp S (up D a 2 z)) Q := w_put dX7_goOn_35 (t := 6) (j := 2) (c := 0) (by decide +kernel) (by decide +kernel) (by decide) rfl (ln_ok (by decide) (by decide)) (Or.inl rfl) ha
theorem s60_38 (h0 : a ≠ 0) : wp 60 38 [.inr (.inl a)] [] h Q ↔ wp 60 39 [.inr (.inl a)] [.inr (.inl a)] h Q := wp_step dX7_goOn_38 (fun _ => if_neg h0)
theorem s60_39  : wp 60 39 [l0] [v0] h Q ↔ wp 60 41 [l0] [.inl (-5), v0] h Q := w_const2 dX7_goOn_39 k_m5 k8_m5
theorem s60_41 (ha : tg a = 6) : wp 60 41 [l0] [.inl z, .inr (.inl a)] (hp S D) Q ↔ wp 60 44 [l0] [] (hp S (up D a 3 z)) Q := w_put dX7_goOn_41 (t := 6) (j := 3) (c := 0) (by decide +kernel) (by decide +kernel) (by decide) rfl (ln_ok (by decide) (by decide)) (Or.inl rfl) ha
theorem s60_44  : wp 60 44 [l0] [] h Q ↔ Q none h := w_retv dX7_goOn_44 (by decide +kernel)
theorem s61_0  : wp 61 0 [l0, l1, l2, l3, l4] [] h Q ↔ wp 61 2 [l0, l1, l2, l3, l4] [.inl (-5)] h Q := w_const2 dX7_nextSocket_0 k_m5 k8_m5
theorem s61_2  : wp 61 2 [l0, l1, l2, l3, l4] [.inl x] h Q ↔ wp 61 3 [l0, .inl x, l2, l3, l4] [] h Q := wp_step dX7_nextSocket_2 (fun _ => rfl)
theorem s61_3  : wp 61 3 [l0, l1, l2, l3, l4] [] h Q ↔ wp 61 4 [l0, l1, l2, l3, l4] [.inl 1] h Q := w_const1 dX7_nextSocket_3 k_1
theorem s61_4  : wp 61 4 [l0, l1, l2, l3, l4] [.inl x] h Q ↔ wp 61 5 [l0, l1, .inl x, l3, l4] [] h Q := wp_step dX7_nextSocket_4 (fun _ => rfl)
theorem s61_5  : wp 61 5 [l0, l1, .inl x, l3, l4] [] h Q ↔ wp 61 6 [l0, l1, .inl x, l3, l4] [.inl x] h Q := wp_step dX7_nextSocket_5 (fun _ => rfl)
theorem s61_6  : wp 61 6 [l0, l1, l2, l3, l4] [v0] h Q ↔ wp 61 8 [l0, l1, l2, l3, l4] [.inl 6, v0] h Q := w_const2 dX7_nextSocket_6 k_6 k8_6
theorem s61_8  : wp 61 8 [l0, l1, l2, l3, l4] [.inl z, .inl x] h Q ↔ if z < x then wp 61 60 [l0, l1, l2, l3, l4] [] h Q else wp 61 11 [l0, l1, l2, l3, l4] [] h Q := w_cgt dX7_nextSocket_8 (by decide)
theorem s61_11 (h0 : a ≠ 0) : wp 61 11 [.inr (.inl a), l1, l2, l3, l4] [] h Q ↔ wp 61 12 [.inr (.inl a), l1, l2, l3, l4] [.inr (.inl a)] h Q := wp_step dX7_nextSocket_11 (fun _ => if_neg h0)
theorem s61_12 (ha : tg a = 6) : wp 61 12 [l0, l1, l2, l3, l4] [.inr (.inl a)] (hp S D) Q ↔ wp 61 15 [l0, l1, l2, l3, l4] [.inl (D a 2)] (hp S D) Q := w_getI dX7_nextSocket_12 (t := 6) (j := 2) (c := 0) (by decide +kernel) (by decide) rfl (ln_ok (by decide) (by decide)) ha
theorem s61_15  : wp 61 15 [l0, l1, .inl x, l3, l4] [v0] h Q ↔ wp 61 16 [l0, l1, .inl x, l3, l4] [.inl x, v0] h Q := wp_step dX7_nextSocket_15 (fun _ => rfl)
theorem s61_16  : wp 61 16 [l0, l1, l2, l3, l4] [.inl z, .inl x] h Q ↔ wp 61 17 [l0, l1, l2, l3, l4] [.inl (w32 (x + z))] h Q := wp_step dX7_nextSocket_16 (fun _ => rfl)
theorem s61_17  : wp 61 17 [l0, l1, l2, l3, l4] [v0] h Q ↔ wp 61 19 [l0, l1, l2, l3, l4] [.inl 6, v0] h Q := w_const2 dX7_nextSocket_17 k_6 k8_6
theorem s61_19 (h0 : z ≠ 0) : wp 61 19 [l0, l1, l2, l3, l4] [.inl z, .inl x] h Q ↔ wp 61 20 [l0, l1, l2, l3, l4] [.inl (w32 (x.tmod z))] h Q := w_rem dX7_nextSocket_19 h0
theorem s61_20  : wp 61 20 [l0, l1, l2, l3, l4] [.inl x] h Q ↔ wp 61 21 [l0, l1, l2, .inl x, l4] [] h Q := wp_step dX7_nextSocket_20 (fun _ => rfl)
theorem s61_21 (h0 : a ≠ 0) : wp 61 21 [.inr (.inl a), l1, l2, l3, l4] [] h Q ↔ wp 61 22 [.inr (.inl a), l1, l2, l3, l4] [.inr (.inl a)] h Q := wp_step dX7_nextSocket_21 (fun _ => if_neg h0)
theorem s61_22  : wp 61 22 [l0, l1, l2, .inl x, l4] [v0] h Q ↔ wp 61 23 [l0, l1, l2, .inl x, l4] [.inl x, v0] h Q := wp_step dX7_nextSocket_22 (fun _ => rfl)
theorem s61_23 (ha : tg a = 6) : wp 61 23 [l0, l1, l2, l3, l4] [.inl x0, .inr (.inl a)] (hp S D) Q ↔ wp 56 0 [.inr (.inl a), .inl x0, .inr (.inl 0)] [] (hp S D) (kont 61 26 [l0, l1, l2, l3, l4] [] Q) := w_callV (y2 := 56) (vs := [.inl x0]) (st := []) dX7_nextSocket_23 (by decide +kernel) rfl (by decide +kernel) (Nat.le_of_ble_eq_true rfl) (eSm_4 (by simp)) 6 rfl (by decide) ha
theorem s61_26 (h0 : a ≠ 0) : wp 61 26 [l0, l1, l2, l3, l4] [.inr (.inl a)] h Q ↔ wp 61 28 [l0, l1, l2, l3, .inr (.inl a)] [] h Q := wp_step dX7_nextSocket_26 (fun _ => (if_neg h0).trans rfl)
theorem s61_28 (h0 : a ≠ 0) : wp 61 28 [l0, l1, l2, l3, .inr (.inl a)] [] h Q ↔ wp 61 30 [l0, l1, l2, l3, .inr (.inl a)] [.inr (.inl a)] h Q := wp_step dX7_nextSocket_28 (fun _ => if_neg h0)
theorem s61_30 (ha : tg a = 3) : wp 61 30 [l0, l1, l2, l3, l4] [.inr (.inl a)] (hp S D) Q ↔ wp 30 0 [.inr (.inl a)] [] (hp S D) (kont 61 33 [l0, l1, l2, l3, l4] [] Q) := w_callV (y2 := 30) (vs := []) (st := []) dX7_nextSocket_30 (by decide +kernel) rfl (by decide +kernel) (Nat.le_of_ble_eq_true rfl) (eSm_4 (by simp)) 3 rfl (by decide) ha
theorem s61_33  : wp 61 33 [l0, l1, l2, l3, l4] [.inl x] h Q ↔ if x = 0 then wp 61 38 [l0, l1, l2, l3, l4] [] h Q else wp 61 36 [l0, l1, l2, l3, l4] [] h Q := w_eq0 dX7_nextSocket_33 (by decide)
theorem s61_36  : wp 61 36 [l0, l1, l2, .inl x, l4] [] h Q ↔ wp 61 37 [l0, l1, l2, .inl x, l4] [.inl x] h Q := wp_step dX7_nextSocket_36 (fun _ => rfl)
theorem s61_37  : wp 61 37 [l0, l1, l2, l3, l4] [.inl x] h Q ↔ Q (some (.inl x)) h := w_reti dX7_nextSocket_37 (e_ri (by decide +kernel))
theorem s61_38  : wp 61 38 [l0, .inl x, l2, l3, l4] [] h Q ↔ wp 61 39 [l0, .inl x, l2, l3, l4] [.inl x] h Q := wp_step dX7_nextSocket_38 (fun _ => rfl)
theorem s61_39  : wp 61 39 [l0, l1, l2, l3, l4] [v0] h Q ↔ wp 61 41 [l0, l1, l2, l3, l4] [.inl (-5), v0] h Q := w_const2 dX7_nextSocket_39 k_m5 k8_m5
theorem s61_41  : wp 61 41 [l0, l1, l2, l3, l4] [.inl z, .inl x] h Q ↔ if x = z then wp 61 44 [l0, l1, l2, l3, l4] [] h Q else wp 61 54 [l0, l1, l2, l3, l4] [] h Q := w_cne dX7_nextSocket_41 (by decide)
theorem s61_44 (h0 : a ≠ 0) : wp 61 44 [l0, l1, l2, l3, .inr (.inl a)] [] h Q ↔ wp 61 46 [l0, l1, l2, l3, .inr (.inl a)] [.inr (.inl a)] h Q := wp_step dX7_nextSocket_44 (fun _ => if_neg h0)
theorem s61_46 (ha : tg a = 3) : wp 61 46 [l0, l1, l2, l3, l4] [.inr (.inl a)] (hp S D) Q ↔ wp 29 0 [.inr (.inl a)] [] (hp S D) (kont 61 49 [l0, l1, l2, l3, l4] [] Q) := w_callV (y2 := 29) (vs := []) (st := []) dX7_nextSocket_46 (by decide +kernel) rfl (by decide +kernel) (Nat.le_of_ble_eq_true rfl) (eSm_4 (by simp)) 3 rfl (by decide) ha
theorem s61_49  : wp 61 49 [l0, l1, l2, l3, l4] [.inl x] h Q ↔ if x = 0 then wp 61 54 [l0, l1, l2, l3, l4] [] h Q else wp 61 52 [l0, l1, l2, l3, l4] [] h Q := w_eq0 dX7_nextSocket_49 (by decide)
theorem s61_52  : wp 61 52 [l0, l1, l2, .inl x, l4] [] h Q ↔ wp 61 53 [l0, l1, l2, .inl x, l4] [.inl x] h Q := wp_step dX7_nextSocket_52 (fun _ => rfl)
theorem s61_53  : wp 61 53 [l0, l1, l2, l3, l4] [.inl x] h Q ↔ wp 61 54 [l0, .inl x, l2, l3, l4] [] h Q := wp_step dX7_nextSocket_53 (fun _ => rfl)
theorem s61_54  : wp 61 54 [l0, l1, .inl x, l3, l4] [] h Q ↔ wp 61 57 [l0, l1, .inl (w32 (x + 1)), l3, l4] [] h Q := wp_step dX7_nextSocket_54 (fun _ => rfl)
theorem s61_57  : wp 61 57 [l0, l1, l2, l3, l4] [] h Q ↔ wp 61 5 [l0, l1, l2, l3, l4] [] h Q := w_goto dX7_nextSocket_57 (by decide)
theorem s61_60  : wp 61 60 [l0, .inl x, l2, l3, l4] [] h Q ↔ wp 61 61 [l0, .inl x, l2, l3, l4] [.inl x] h Q := wp_step dX7_nextSocket_60 (fun _ => rfl)
theorem s61_61  : wp 61 61 [l0, l1, l2, l3, l4] [.inl x] h Q ↔ Q (some (.inl x)) h := w_reti dX7_nextSocket_61 (e_ri (by decide +kernel))
theorem s62_0  : wp 62 0 [l0, l1, l2] [] h Q ↔ wp 62 1 [l0, l1, l2] [.inl 0] h Q := w_const1 dX7_socketOfRank_0 k_0
theorem s62_1  : wp 62 1 [l0, l1, l2] [.inl x] h Q ↔ wp 62 2 [l0, l1, .inl x] [] h Q := wp_step dX7_socketOfRank_1 (fun _ => rfl)
theorem s62_2  : wp 62 2 [l0, l1, .inl x] [] h Q ↔ wp 62 3 [l0, l1, .inl x] [.inl x] h Q := wp_step dX7_socketOfRank_2 (fun _ => rfl)
theorem s62_3  : wp 62 3 [l0, l1, l2] [v0] h Q ↔ wp 62 5 [l0, l1, l2] [.inl 6, v0] h Q := w_const2 dX7_socketOfRank_3 k_6 k8_6
theorem s62_5  : wp 62 5 [l0, l1, l2] [.inl z, .inl x] h Q ↔ if x < z then wp 62 8 [l0, l1, l2] [] h Q else wp 62 36 [l0, l1, l2] [] h Q := w_cge dX7_socketOfRank_5 (by decide)
theorem s62_8 (h0 : a ≠ 0) : wp 62 8 [.inr (.inl a), l1, l2] [] h Q ↔ wp 62 9 [.inr (.inl a), l1, l2] [.inr (.inl a)] h Q := wp_step dX7_socketOfRank_8 (fun _ => if_neg h0)
theorem s62_9  : wp 62 9 [l0, l1, .inl x] [v0] h Q ↔ wp 62 10 [l0, l1, .inl x] [.inl x, v0] h Q := wp_step dX7_socketOfRank_9 (fun _ => rfl)
theorem s62_10 (ha : tg a = 6) : wp 62 10 [l0, l1, l2] [.inl x0, .inr (.inl a)] (hp S D) Q ↔ wp 56 0 [.inr (.inl a), .inl x0, .inr (.inl 0)] [] (hp S D) (kont 62 13 [l0, l1, l2] [] Q) := w_callV (y2 := 56) (vs := [.inl x0]) (st := []) dX7_socketOfRank_10 (by decide +kernel) rfl (by decide +kernel) (Nat.le_of_ble_eq_true rfl) (eSm_4 (by simp)) 6 rfl (by decide) ha
theorem s62_13 (ha : tg a = 3) : wp 62 13 [l0, l1, l2] [.inr (.inl a)] (hp S D) Q ↔ wp 29 0 [.inr (.inl a)] [] (hp S D) (kont 62 16 [l0, l1, l2] [] Q) := w_callV (y2 := 29) (vs := []) (st := []) dX7_socketOfRank_13 (by decide +kernel) rfl (by decide +kernel) (Nat.le_of_ble_eq_true rfl) (eSm_4 (by simp)) 3 rfl (by decide) ha
theorem s62_16  : wp 62 16 [l0, l1, l2] [.inl x] h Q ↔ if x = 0 then wp 62 30 [l0, l1, l2] [] h Q else wp 62 19 [l0, l1, l2] [] h Q := w_eq0 dX7_socketOfRank_16 (by decide)
theorem s62_19 (h0 : a ≠ 0) : wp 62 19 [.inr (.inl a), l1, l2] [] h Q ↔ wp 62 20 [.inr (.inl a), l1, l2] [.inr (.inl a)] h Q := wp_step dX7_socketOfRank_19 (fun _ => if_neg h0)
theorem s62_20  : wp 62 20 [l0, l1, .inl x] [v0] h Q ↔ wp 62 21 [l0, l1, .inl x] [.inl x, v0] h Q := wp_step dX7_socketOfRank_20 (fun _ => rfl)
theorem s62_21 (ha : tg a = 6) : wp 62 21 [l0, l1, l2] [.inl x0, .inr (.inl a)] (hp S D) Q ↔ wp 63 0 [.inr (.inl a), .inl x0, .inr (.inl 0), .inr (.inl 0), .inr (.inl 0), .inr (.inl 0), .inr (.inl 0)] [] (hp S D) (kont 62 24 [l0, l1, l2] [] Q) := w_callV (y2 := 63) (vs := [.inl x0]) (st := []) dX7_socketOfRank_21 (by decide +kernel) rfl (by decide +kernel) (Nat.le_of_ble_eq_true rfl) (eSm_4 (by simp)) 6 rfl (by decide) ha
theorem s62_24  : wp 62 24 [l0, .inl x, l2] [v0] h Q ↔ wp 62 25 [l0, .inl x, l2] [.inl x, v0] h Q := wp_step dX7_socketOfRank_24 (fun _ => rfl)
theorem s62_25  : wp 62 25 [l0, l1, l2] [.inl z, .inl x] h Q ↔ if x = z then wp 62 28 [l0, l1, l2] [] h Q else wp 62 30 [l0, l1, l2] [] h Q := w_cne dX7_socketOfRank_25 (by decide)
theorem s62_28  : wp 62 28 [l0, l1, .inl x] [] h Q ↔ wp 62 29 [l0, l1, .inl x] [.inl x] h Q := wp_step dX7_socketOfRank_28 (fun _ => rfl)
theorem s62_29  : wp 62 29 [l0, l1, l2] [.inl x] h Q ↔ Q (some (.inl x)) h := w_reti dX7_socketOfRank_29 (e_ri (by decide +kernel))
theorem s62_30  : wp 62 30 [l0, l1, .inl x] [] h Q ↔ wp 62 33 [l0, l1, .inl (w32 (x + 1))] [] h Q := wp_step dX7_socketOfRank_30 (fun _ => rfl)
theorem s62_33  : wp 62 33 [l0, l1, l2] [] h Q ↔ wp 62 2 [l0, l1, l2] [] h Q := w_goto dX7_socketOfRank_33 (by decide)
theorem s62_36  : wp 62 36 [l0, l1, l2] [] h Q ↔ wp 62 38 [l0, l1, l2] [.inl (-5)] h Q := w_const2 dX7_socketOfRank_36 k_m5 k8_m5
theorem s62_38  : wp 62 38 [l0, l1, l2] [.inl x] h Q ↔ Q (some (.inl x)) h := w_reti dX7_socketOfRank_38 (e_ri (by decide +kernel))
theorem s63_0 (h0 : a ≠ 0) : wp 63 0 [.inr (.inl a), l1, l2, l3, l4, l5, l6] [] h Q ↔ wp 63 1 [.inr (.inl a), l1, l2, l3, l4, l5, l6] [.inr (.inl a)] h Q := wp_step dX7_usableOnesAheadOf_0 (fun _ => if_neg h0)
theorem s63_1  : wp 63 1 [l0, .inl x, l2, l3, l4, l5, l6] [v0] h Q ↔ wp 63 2 [l0, .inl x, l2, l3, l4, l5, l6] [.inl x, v0] h Q := wp_step dX7_usableOnesAheadOf_1 (fun _ => rfl)
theorem s63_2 (ha : tg a = 6) : wp 63 2 [l0, l1, l2, l3, l4, l5, l6] [.inl x0, .inr (.inl a)] (hp S D) Q ↔ wp 56 0 [.inr (.inl a), .inl x0, .inr (.inl 0)] [] (hp S D) (kont 63 5 [l0, l1, l2, l3, l4, l5, l6] [] Q) := w_callV (y2 := 56) (vs := [.inl x0]) (st := []) dX7_usableOnesAheadOf_2 (by decide +kernel) rfl (by decide +kernel) (Nat.le_of_ble_eq_true rfl) (eSm_4 (by simp)) 6 rfl (by decide) ha
theorem s63_5 (ha : tg a = 3) : wp 63 5 [l0, l1, l2, l3, l4, l5, l6] [.inr (.inl a)] (hp S D) Q ↔ wp 31 0 [.inr (.inl a)] [] (hp S D) (kont 63 8 [l0, l1, l2, l3, l4, l5, l6] [] Q) := w_callV (y2 := 31) (vs := []) (st := []) dX7_usableOnesAheadOf_5 (by decide +kernel) rfl (by decide +kernel) (Nat.le_of_ble_eq_true rfl) (eSm_4 (by simp)) 3 rfl (by decide) ha
theorem s63_8  : wp 63 8 [l0, l1, l2, l3, l4, l5, l6] [.inl x] h Q ↔ wp 63 9 [l0, l1, .inl x, l3, l4, l5, l6] [] h Q := wp_step dX7_usableOnesAheadOf_8 (fun _ => rfl)
theorem s63_9  : wp 63 9 [l0, l1, l2, l3, l4, l5, l6] [] h Q ↔ wp 63 10 [l0, l1, l2, l3, l4, l5, l6] [.inl 0] h Q := w_const1 dX7_usableOnesAheadOf_9 k_0
theorem s63_10  : wp 63 10 [l0, l1, l2, l3, l4, l5, l6] [.inl x] h Q ↔ wp 63 11 [l0, l1, l2, .inl x, l4, l5, l6] [] h Q := wp_step dX7_usableOnesAheadOf_10 (fun _ => rfl)
theorem s63_11  : wp 63 11 [l0, l1, l2, l3, l4, l5, l6] [] h Q ↔ wp 63 12 [l0, l1, l2, l3, l4, l5, l6] [.inl 0] h Q := w_const1 dX7_usableOnesAheadOf_11 k_0
theorem s63_12  : wp 63 12 [l0, l1, l2, l3, l4, l5, l6] [.inl x] h Q ↔ wp 63 14 [l0, l1, l2, l3, .inl x, l5, l6] [] h Q := wp_step dX7_usableOnesAheadOf_12 (fun _ => rfl)
theorem s63_14  : wp 63 14 [l0, l1, l2, l3, .inl x, l5, l6] [] h Q ↔ wp 63 16 [l0, l1, l2, l3, .inl x, l5, l6] [.inl x] h Q := wp_step dX7_usableOnesAheadOf_14 (fun _ => rfl)
theorem s63_16  : wp 63 16 [l0, l1, l2, l3, l4, l5, l6] [v0] h Q ↔ wp 63 18 [l0, l1, l2, l3, l4, l5, l6] [.inl 6, v0] h Q := w_const2 dX7_usableOnesAheadOf_16 k_6 k8_6
theorem s63_18  : wp 63 18 [l0, l1, l2, l3, l4, l5, l6] [.inl z, .inl x] h Q ↔ if x < z then wp 63 21 [l0, l1, l2, l3, l4, l5, l6] [] h Q else wp 63 82 [l0, l1, l2, l3, l4, l5, l6] [] h Q := w_cge dX7_usableOnesAheadOf_18 (by decide)
theorem s63_21 (h0 : a ≠ 0) : wp 63 21 [.inr (.inl a), l1, l2, l3, l4, l5, l6] [] h Q ↔ wp 63 22 [.inr (.inl a), l1, l2, l3, l4, l5, l6] [.inr (.inl a)] h Q := wp_step dX7_usableOnesAheadOf_21 (fun _ => if_neg h0)
theorem s63_22  : wp 63 22 [l0, l1, l2, l3, .inl x, l5, l6] [v0] h Q ↔ wp 63 24 [l0, l1, l2, l3, .inl x, l5, l6] [.inl x, v0] h Q := wp_step dX7_usableOnesAheadOf_22 (fun _ => rfl)
theorem s63_24 (ha : tg a = 6) : wp 63 24 [l0, l1, l2, l3, l4, l5, l6] [.inl x0, .inr (.inl a)] (hp S D) Q ↔ wp 56 0 [.inr (.inl a), .inl x0, .inr (.inl 0)] [] (hp S D) (kont 63 27 [l0, l1, l2, l3, l4, l5, l6] [] Q) := w_callV (y2 := 56) (vs := [.inl x0]) (st := []) dX7_usableOnesAheadOf_24 (by decide +kernel) rfl (by decide +kernel) (Nat.le_of_ble_eq_true rfl) (eSm_4 (by simp)) 6 rfl (by decide) ha
theorem s63_27 (h0 : a ≠ 0) : wp 63 27 [l0, l1, l2, l3, l4, l5, l6] [.inr (.inl a)] h Q ↔ wp 63 29 [l0, l1, l2, l3, l4, .inr (.inl a), l6] [] h Q := wp_step dX7_usableOnesAheadOf_27 (fun _ => (if_neg h0).trans rfl)
theorem s63_29 (h0 : a ≠ 0) : wp 63 29 [l0, l1, l2, l3, l4, .inr (.inl a), l6] [] h Q ↔ wp 63 31 [l0, l1, l2, l3, l4, .inr (.inl a), l6] [.inr (.inl a)] h Q := wp_step dX7_usableOnesAheadOf_29 (fun _ => if_neg h0)
theorem s63_31 (ha : tg a = 3) : wp 63 31 [l0, l1, l2, l3, l4, l5, l6] [.inr (.inl a)] (hp S D) Q ↔ wp 31 0 [.inr (.inl a)] [] (hp S D) (kont 63 34 [l0, l1, l2, l3, l4, l5, l6] [] Q) := w_callV (y2 := 31) (vs := []) (st := []) dX7_usableOnesAheadOf_31 (by decide +kernel) rfl (by decide +kernel) (Nat.le_of_ble_eq_true rfl) (eSm_4 (by simp)) 3 rfl (by decide) ha
theorem s63_34  : wp 63 34 [l0, l1, .inl x, l3, l4, l5, l6] [v0] h Q ↔ wp 63 35 [l0, l1, .inl x, l3, l4, l5, l6] [.inl x, v0] h Q := wp_step dX7_usableOnesAheadOf_34 (fun _ => rfl)
theorem s63_35  : wp 63 35 [l0, l1, l2, l3, l4, l5, l6] [.inl z, .inl x] h Q ↔ if z < x then wp 63 53 [l0, l1, l2, l3, l4, l5, l6] [] h Q else wp 63 38 [l0, l1, l2, l3, l4, l5, l6] [] h Q := w_cgt dX7_usableOnesAheadOf_35 (by decide)
theorem s63_38 (h0 : a ≠ 0) : wp 63 38 [l0, l1, l2, l3, l4, .inr (.inl a), l6] [] h Q ↔ wp 63 40 [l0, l1, l2, l3, l4, .inr (.inl a), l6] [.inr (.inl a)] h Q := wp_step dX7_usableOnesAheadOf_38 (fun _ => if_neg h0)
theorem s63_40 (ha : tg a = 3) : wp 63 40 [l0, l1, l2, l3, l4, l5, l6] [.inr (.inl a)] (hp S D) Q ↔ wp 31 0 [.inr (.inl a)] [] (hp S D) (kont 63 43 [l0, l1, l2, l3, l4, l5, l6] [] Q) := w_callV (y2 := 31) (vs := []) (st := []) dX7_usableOnesAheadOf_40 (by decide +kernel) rfl (by decide +kernel) (Nat.le_of_ble_eq_true rfl) (eSm_4 (by simp)) 3 rfl (by decide) ha
theorem s63_43  : wp 63 43 [l0, l1, .inl x, l3, l4, l5, l6] [v0] h Q ↔ wp 63 44 [l0, l1, .inl x, l3, l4, l5, l6] [.inl x, v0] h Q := wp_step dX7_usableOnesAheadOf_43 (fun _ => rfl)
theorem s63_44  : wp 63 44 [l0, l1, l2, l3, l4, l5, l6] [.inl z, .inl x] h Q ↔ if x = z then wp 63 47 [l0, l1, l2, l3, l4, l5, l6] [] h Q else wp 63 57 [l0, l1, l2, l3, l4, l5, l6] [] h Q := w_cne dX7_usableOnesAheadOf_44 (by decide)
theorem s63_47  : wp 63 47 [l0, l1, l2, l3, .inl x, l5, l6] [] h Q ↔ wp 63 49 [l0, l1, l2, l3, .inl x, l5, l6] [.inl x] h Q := wp_step dX7_usableOnesAheadOf_47 (fun _ => rfl)
theorem s63_49  : wp 63 49 [l0, .inl x, l2, l3, l4, l5, l6] [v0] h Q ↔ wp 63 50 [l0, .inl x, l2, l3, l4, l5, l6] [.inl x, v0] h Q := wp_step dX7_usableOnesAheadOf_49 (fun _ => rfl)
theorem s63_50  : wp 63 50 [l0, l1, l2, l3, l4, l5, l6] [.inl z, .inl x] h Q ↔ if x < z then wp 63 53 [l0, l1, l2, l3, l4, l5, l6] [] h Q else wp 63 57 [l0, l1, l2, l3, l4, l5, l6] [] h Q := w_cge dX7_usableOnesAheadOf_50 (by decide)
theorem s63_53  : wp 63 53 [l0, l1, l2, l3, l4, l5, l6] [] h Q ↔ wp 63 54 [l0, l1, l2, l3, l4, l5, l6] [.inl 1] h Q := w_const1 dX7_usableOnesAheadOf_53 k_1
theorem s63_54  : wp 63 54 [l0, l1, l2, l3, l4, l5, l6] [v0] h Q ↔ wp 63 58 [l0, l1, l2, l3, l4, l5, l6] [v0] h Q := w_goto dX7_usableOnesAheadOf_54 (by decide)
theorem s63_57  : wp 63 57 [l0, l1, l2, l3, l4, l5, l6] [] h Q ↔ wp 63 58 [l0, l1, l2, l3, l4, l5, l6] [.inl 0] h Q := w_const1 dX7_usableOnesAheadOf_57 k_0
theorem s63_58  : wp 63 58 [l0, l1, l2, l3, l4, l5, l6] [.inl x] h Q ↔ wp 63 60 [l0, l1, l2, l3, l4, l5, .inl x] [] h Q := wp_step dX7_usableOnesAheadOf_58 (fun _ => rfl)
theorem s63_60 (h0 : a ≠ 0) : wp 63 60 [l0, l1, l2, l3, l4, .inr (.inl a), l6] [] h Q ↔ wp 63 62 [l0, l1, l2, l3, l4, .inr (.inl a), l6] [.inr (.inl a)] h Q := wp_step dX7_usableOnesAheadOf_60 (fun _ => if_neg h0)
theorem s63_62 (ha : tg a = 3) : wp 63 62 [l0, l1, l2, l3, l4, l5, l6] [.inr (.inl a)] (hp S D) Q ↔ wp 29 0 [.inr (.inl a)] [] (hp S D) (kont 63 65 [l0, l1, l2, l3, l4, l5, l6] [] Q) := w_callV (y2 := 29) (vs := []) (st := []) dX7_usableOnesAheadOf_62 (by decide +kernel) rfl (by decide +kernel) (Nat.le_of_ble_eq_true rfl) (eSm_4 (by simp)) 3 rfl (by decide) ha
theorem s63_65  : wp 63 65 [l0, l1, l2, l3, l4, l5, l6] [.inl x] h Q ↔ if x = 0 then wp 63 76 [l0, l1, l2, l3, l4, l5, l6] [] h Q else wp 63 68 [l0, l1, l2, l3, l4, l5, l6] [] h Q := w_eq0 dX7_usableOnesAheadOf_65 (by decide)
theorem s63_68  : wp 63 68 [l0, l1, l2, l3, l4, l5, .inl x] [] h Q ↔ wp 63 70 [l0, l1, l2, l3, l4, l5, .inl x] [.inl x] h Q := wp_step dX7_usableOnesAheadOf_68 (fun _ => rfl)
theorem s63_70  : wp 63 70 [l0, l1, l2, l3, l4, l5, l6] [.inl x] h Q ↔ if x = 0 then wp 63 76 [l0, l1, l2, l3, l4, l5, l6] [] h Q else wp 63 73 [l0, l1, l2, l3, l4, l5, l6] [] h Q := w_eq0 dX7_usableOnesAheadOf_70 (by decide)
theorem s63_73  : wp 63 73 [l0, l1, l2, .inl x, l4, l5, l6] [] h Q ↔ wp 63 76 [l0, l1, l2, .inl (w32 (x + 1)), l4, l5, l6] [] h Q := wp_step dX7_usableOnesAheadOf_73 (fun _ => rfl)
theorem s63_76  : wp 63 76 [l0, l1, l2, l3, .inl x, l5, l6] [] h Q ↔ wp 63 79 [l0, l1, l2, l3, .inl (w32 (x + 1)), l5, l6] [] h Q := wp_step dX7_usableOnesAheadOf_76 (fun _ => rfl)
theorem s63_79  : wp 63 79 [l0, l1, l2, l3, l4, l5, l6] [] h Q ↔ wp 63 14 [l0, l1, l2, l3, l4, l5, l6] [] h Q := w_goto dX7_usableOnesAheadOf_79 (by decide)
theorem s63_82  : wp 63 82 [l0, l1, l2, .inl x, l4, l5, l6] [] h Q ↔ wp 63 83 [l0, l1, l2, .inl x, l4, l5, l6] [.inl x] h Q := wp_step dX7_usableOnesAheadOf_82 (fun _ => rfl)
theorem s63_83  : wp 63 83 [l0, l1, l2, l3, l4, l5, l6] [.inl x] h Q ↔ Q (some (.inl x)) h := w_reti dX7_usableOnesAheadOf_83 (e_ri (by decide +kernel))
theorem s64_0  : wp 64 0 [l0, l1, l2] [] h Q ↔ wp 64 1 [l0, l1, l2] [.inl 0] h Q := w_const1 dX7_lampsThere_0 k_0
theorem s64_1  : wp 64 1 [l0, l1, l2] [.inl x] h Q ↔ wp 64 2 [l0, .inl x, l2] [] h Q := wp_step dX7_lampsThere_1 (fun _ => rfl)
theorem s64_2  : wp 64 2 [l0, l1, l2] [] h Q ↔ wp 64 3 [l0, l1, l2] [.inl 0] h Q := w_const1 dX7_lampsThere_2 k_0
theorem s64_3  : wp 64 3 [l0, l1, l2] [.inl x] h Q ↔ wp 64 4 [l0, l1, .inl x] [] h Q := wp_step dX7_lampsThere_3 (fun _ => rfl)
theorem s64_4  : wp 64 4 [l0, l1, .inl x] [] h Q ↔ wp 64 5 [l0, l1, .inl x] [.inl x] h Q := wp_step dX7_lampsThere_4 (fun _ => rfl)
theorem s64_5  : wp 64 5 [l0, l1, l2] [v0] h Q ↔ wp 64 7 [l0, l1, l2] [.inl 6, v0] h Q := w_const2 dX7_lampsThere_5 k_6 k8_6
theorem s64_7  : wp 64 7 [l0, l1, l2] [.inl z, .inl x] h Q ↔ if x < z then wp 64 10 [l0, l1, l2] [] h Q else wp 64 30 [l0, l1, l2] [] h Q := w_cge dX7_lampsThere_7 (by decide)
theorem s64_10  : wp 64 10 [l0, .inl x, l2] [] h Q ↔ wp 64 11 [l0, .inl x, l2] [.inl x] h Q := wp_step dX7_lampsThere_10 (fun _ => rfl)
theorem s64_11 (h0 : a ≠ 0) : wp 64 11 [.inr (.inl a), l1, l2] [v0] h Q ↔ wp 64 12 [.inr (.inl a), l1, l2] [.inr (.inl a), v0] h Q := wp_step dX7_lampsThere_11 (fun _ => if_neg h0)
theorem s64_12  : wp 64 12 [l0, l1, .inl x] [v0, v1] h Q ↔ wp 64 13 [l0, l1, .inl x] [.inl x, v0, v1] h Q := wp_step dX7_lampsThere_12 (fun _ => rfl)
theorem s64_13 (ha : tg a = 6) : wp 64 13 [l0, l1, l2] [.inl x0, .inr (.inl a), v0] (hp S D) Q ↔ wp 56 0 [.inr (.inl a), .inl x0, .inr (.inl 0)] [] (hp S D) (kont 64 16 [l0, l1, l2] [v0] Q) := w_callV (y2 := 56) (vs := [.inl x0]) (st := [v0]) dX7_lampsThere_13 (by decide +kernel) rfl (by decide +kernel) (Nat.le_of_ble_eq_true rfl) (eSm_4 (by simp)) 6 rfl (by decide) ha
theorem s64_16 (ha : tg a = 3) : wp 64 16 [l0, l1, l2] [.inr (.inl a), v0] (hp S D) Q ↔ wp 27 0 [.inr (.inl a)] [] (hp S D) (kont 64 19 [l0, l1, l2] [v0] Q) := w_callV (y2 := 27) (vs := []) (st := [v0]) dX7_lampsThere_16 (by decide +kernel) rfl (by decide +kernel) (Nat.le_of_ble_eq_true rfl) (eSm_4 (by simp)) 3 rfl (by decide) ha
theorem s64_19  : wp 64 19 [l0, l1, l2] [.inl x0, v0] h Q ↔ wp 97 0 [.inl x0] [] h (kont 64 22 [l0, l1, l2] [v0] Q) := w_callS (y2 := 97) (kd := 3) (vs := [.inl x0]) (st := [v0]) dX7_lampsThere_19 (by decide +kernel) (by decide) rfl (by decide +kernel) (Nat.le_of_ble_eq_true rfl) (eSm_4 (by simp))
theorem s64_22  : wp 64 22 [l0, l1, l2] [.inl z, .inl x] h Q ↔ wp 64 23 [l0, l1, l2] [.inl (w32 (x + z))] h Q := wp_step dX7_lampsThere_22 (fun _ => rfl)
theorem s64_23  : wp 64 23 [l0, l1, l2] [.inl x] h Q ↔ wp 64 24 [l0, .inl x, l2] [] h Q := wp_step dX7_lampsThere_23 (fun _ => rfl)
theorem s64_24  : wp 64 24 [l0, l1, .inl x] [] h Q ↔ wp 64 27 [l0, l1, .inl (w32 (x + 1))] [] h Q := wp_step dX7_lampsThere_24 (fun _ => rfl)
theorem s64_27  : wp 64 27 [l0, l1, l2] [] h Q ↔ wp 64 4 [l0, l1, l2] [] h Q := w_goto dX7_lampsThere_27 (by decide)
theorem s64_30  : wp 64 30 [l0, .inl x, l2] [] h Q ↔ wp 64 31 [l0, .inl x, l2] [.inl x] h Q := wp_step dX7_lampsThere_30 (fun _ => rfl)
theorem s64_31  : wp 64 31 [l0, l1, l2] [.inl x] h Q ↔ Q (some (.inl x)) h := w_reti dX7_lampsThere_31 (e_ri (by decide +kernel))
theorem s65_0  : wp 65 0 [l0, l1, l2, l3] [] h Q ↔ wp 65 1 [l0, l1, l2, l3] [.inl 0] h Q := w_const1 dX7_lampsBurntOut_0 k_0
theorem s65_1  : wp 65 1 [l0, l1, l2, l3] [.inl x] h Q ↔ wp 65 2 [l0, .inl x, l2, l3] [] h Q := wp_step dX7_lampsBurntOut_1 (fun _ => rfl)
theorem s65_2  : wp 65 2 [l0, l1, l2, l3] [] h Q ↔ wp 65 3 [l0, l1, l2, l3] [.inl 0] h Q := w_const1 dX7_lampsBurntOut_2 k_0
theorem s65_3  : wp 65 3 [l0, l1, l2, l3] [.inl x] h Q ↔ wp 65 4 [l0, l1, .inl x, l3] [] h Q := wp_step dX7_lampsBurntOut_3 (fun _ => rfl)
theorem s65_4  : wp 65 4 [l0, l1, .inl x, l3] [] h Q ↔ wp 65 5 [l0, l1, .inl x, l3] [.inl x] h Q := wp_step dX7_lampsBurntOut_4 (fun _ => rfl)
theorem s65_5  : wp 65 5 [l0, l1, l2, l3] [v0] h Q ↔ wp 65 7 [l0, l1, l2, l3] [.inl 6, v0] h Q := w_const2 dX7_lampsBurntOut_5 k_6 k8_6
theorem s65_7  : wp 65 7 [l0, l1, l2, l3] [.inl z, .inl x] h Q ↔ if x < z then wp 65 10 [l0, l1, l2, l3] [] h Q else wp 65 47 [l0, l1, l2, l3] [] h Q := w_cge dX7_lampsBurntOut_7 (by decide)
theorem s65_10 (h0 : a ≠ 0) : wp 65 10 [.inr (.inl a), l1, l2, l3] [] h Q ↔ wp 65 11 [.inr (.inl a), l1, l2, l3] [.inr (.inl a)] h Q := wp_step dX7_lampsBurntOut_10 (fun _ => if_neg h0)
theorem s65_11  : wp 65 11 [l0, l1, .inl x, l3] [v0] h Q ↔ wp 65 12 [l0, l1, .inl x, l3] [.inl x, v0] h Q := wp_step dX7_lampsBurntOut_11 (fun _ => rfl)
theorem s65_12 (ha : tg a = 6) : wp 65 12 [l0, l1, l2, l3] [.inl x0, .inr (.inl a)] (hp S D) Q ↔ wp 56 0 [.inr (.inl a), .inl x0, .inr (.inl 0)] [] (hp S D) (kont 65 15 [l0, l1, l2, l3] [] Q) := w_callV (y2 := 56) (vs := [.inl x0]) (st := []) dX7_lampsBurntOut_12 (by decide +kernel) rfl (by decide +kernel) (Nat.le_of_ble_eq_true rfl) (eSm_4 (by simp)) 6 rfl (by decide) ha
theorem s65_15 (h0 : a ≠ 0) : wp 65 15 [l0, l1, l2, l3] [.inr (.inl a)] h Q ↔ wp 65 16 [l0, l1, l2, .inr (.inl a)] [] h Q := wp_step dX7_lampsBurntOut_15 (fun _ => (if_neg h0).trans rfl)
theorem s65_16  : wp 65 16 [l0, .inl x, l2, l3] [] h Q ↔ wp 65 17 [l0, .inl x, l2, l3] [.inl x] h Q := wp_step dX7_lampsBurntOut_16 (fun _ => rfl)
theorem s65_17 (h0 : a ≠ 0) : wp 65 17 [l0, l1, l2, .inr (.inl a)] [v0] h Q ↔ wp 65 18 [l0, l1, l2, .inr (.inl a)] [.inr (.inl a), v0] h Q := wp_step dX7_lampsBurntOut_17 (fun _ => if_neg h0)
theorem s65_18 (ha : tg a = 3) : wp 65 18 [l0, l1, l2, l3] [.inr (.inl a), v0] (hp S D) Q ↔ wp 27 0 [.inr (.inl a)] [] (hp S D) (kont 65 21 [l0, l1, l2, l3] [v0] Q) := w_callV (y2 := 27) (vs := []) (st := [v0]) dX7_lampsBurntOut_18 (by decide +kernel) rfl (by decide +kernel) (Nat.le_of_ble_eq_true rfl) (eSm_4 (by simp)) 3 rfl (by decide) ha
theorem s65_21  : wp 65 21 [l0, l1, l2, l3] [.inl x, v0] h Q ↔ if x = 0 then wp 65 35 [l0, l1, l2, l3] [v0] h Q else wp 65 24 [l0, l1, l2, l3] [v0] h Q := w_eq0 dX7_lampsBurntOut_21 (by decide)
theorem s65_24 (h0 : a ≠ 0) : wp 65 24 [l0, l1, l2, .inr (.inl a)] [v0] h Q ↔ wp 65 25 [l0, l1, l2, .inr (.inl a)] [.inr (.inl a), v0] h Q := wp_step dX7_lampsBurntOut_24 (fun _ => if_neg h0)
theorem s65_25 (ha : tg a = 3) : wp 65 25 [l0, l1, l2, l3] [.inr (.inl a), v0] (hp S D) Q ↔ wp 28 0 [.inr (.inl a)] [] (hp S D) (kont 65 28 [l0, l1, l2, l3] [v0] Q) := w_callV (y2 := 28) (vs := []) (st := [v0]) dX7_lampsBurntOut_25 (by decide +kernel) rfl (by decide +kernel) (Nat.le_of_ble_eq_true rfl) (eSm_4 (by simp)) 3 rfl (by decide) ha
theorem s65_28  : wp 65 28 [l0, l1, l2, l3] [.inl x, v0] h Q ↔ if x = 0 then wp 65 35 [l0, l1, l2, l3] [v0] h Q else wp 65 31 [l0, l1, l2, l3] [v0] h Q := w_eq0 dX7_lampsBurntOut_28 (by decide)
theorem s65_31  : wp 65 31 [l0, l1, l2, l3] [v0] h Q ↔ wp 65 32 [l0, l1, l2, l3] [.inl 1, v0] h Q := w_const1 dX7_lampsBurntOut_31 k_1
theorem s65_32  : wp 65 32 [l0, l1, l2, l3] [v0, v1] h Q ↔ wp 65 36 [l0, l1, l2, l3] [v0, v1] h Q := w_goto dX7_lampsBurntOut_32 (by decide)
theorem s65_35  : wp 65 35 [l0, l1, l2, l3] [v0] h Q ↔ wp 65 36 [l0, l1, l2, l3] [.inl 0, v0] h Q := w_const1 dX7_lampsBurntOut_35 k_0
theorem s65_36  : wp 65 36 [l0, l1, l2, l3] [.inl x0, v0] h Q ↔ wp 97 0 [.inl x0] [] h (kont 65 39 [l0, l1, l2, l3] [v0] Q) := w_callS (y2 := 97) (kd := 3) (vs := [.inl x0]) (st := [v0]) dX7_lampsBurntOut_36 (by decide +kernel) (by decide) rfl (by decide +kernel) (Nat.le_of_ble_eq_true rfl) (eSm_4 (by simp))
theorem s65_39  : wp 65 39 [l0, l1, l2, l3] [.inl z, .inl x] h Q ↔ wp 65 40 [l0, l1, l2, l3] [.inl (w32 (x + z))] h Q := wp_step dX7_lampsBurntOut_39 (fun _ => rfl)
theorem s65_40  : wp 65 40 [l0, l1, l2, l3] [.inl x] h Q ↔ wp 65 41 [l0, .inl x, l2, l3] [] h Q := wp_step dX7_lampsBurntOut_40 (fun _ => rfl)
theorem s65_41  : wp 65 41 [l0, l1, .inl x, l3] [] h Q ↔ wp 65 44 [l0, l1, .inl (w32 (x + 1)), l3] [] h Q := wp_step dX7_lampsBurntOut_41 (fun _ => rfl)
theorem s65_44  : wp 65 44 [l0, l1, l2, l3] [] h Q ↔ wp 65 4 [l0, l1, l2, l3] [] h Q := w_goto dX7_lampsBurntOut_44 (by decide)
theorem s65_47  : wp 65 47 [l0, .inl x, l2, l3] [] h Q ↔ wp 65 48 [l0, .inl x, l2, l3] [.inl x] h Q := wp_step dX7_lampsBurntOut_47 (fun _ => rfl)
theorem s65_48  : wp 65 48 [l0, l1, l2, l3] [.inl x] h Q ↔ Q (some (.inl x)) h := w_reti dX7_lampsBurntOut_48 (e_ri (by decide +kernel))
theorem s66_0  : wp 66 0 [l0, l1, l2, l3] [] h Q ↔ wp 66 1 [l0, l1, l2, l3] [.inl 0] h Q := w_const1 dX7_lampsTired_0 k_0
theorem s66_1  : wp 66 1 [l0, l1, l2, l3] [.inl x] h Q ↔ wp 66 2 [l0, .inl x, l2, l3] [] h Q := wp_step dX7_lampsTired_1 (fun _ => rfl)
theorem s66_2  : wp 66 2 [l0, l1, l2, l3] [] h Q ↔ wp 66 3 [l0, l1, l2, l3] [.inl 0] h Q := w_const1 dX7_lampsTired_2 k_0
theorem s66_3  : wp 66 3 [l0, l1, l2, l3] [.inl x] h Q ↔ wp 66 4 [l0, l1, .inl x, l3] [] h Q := wp_step dX7_lampsTired_3 (fun _ => rfl)
theorem s66_4  : wp 66 4 [l0, l1, .inl x, l3] [] h Q ↔ wp 66 5 [l0, l1, .inl x, l3] [.inl x] h Q := wp_step dX7_lampsTired_4 (fun _ => rfl)
theorem s66_5  : wp 66 5 [l0, l1, l2, l3] [v0] h Q ↔ wp 66 7 [l0, l1, l2, l3] [.inl 6, v0] h Q := w_const2 dX7_lampsTired_5 k_6 k8_6
theorem s66_7  : wp 66 7 [l0, l1, l2, l3] [.inl z, .inl x] h Q ↔ if x < z then wp 66 10 [l0, l1, l2, l3] [] h Q else wp 66 47 [l0, l1, l2, l3] [] h Q := w_cge dX7_lampsTired_7 (by decide)
theorem s66_10 (h0 : a ≠ 0) : wp 66 10 [.inr (.inl a), l1, l2, l3] [] h Q ↔ wp 66 11 [.inr (.inl a), l1, l2, l3] [.inr (.inl a)] h Q := wp_step dX7_lampsTired_10 (fun _ => if_neg h0)
theorem s66_11  : wp 66 11 [l0, l1, .inl x, l3] [v0] h Q ↔ wp 66 12 [l0, l1, .inl x, l3] [.inl x, v0] h Q := wp_step dX7_lampsTired_11 (fun _ => rfl)
theorem s66_12 (ha : tg a = 6) : wp 66 12 [l0, l1, l2, l3] [.inl x0, .inr (.inl a)] (hp S D) Q ↔ wp 56 0 [.inr (.inl a), .inl x0, .inr (.inl 0)] [] (hp S D) (kont 66 15 [l0, l1, l2, l3] [] Q) := w_callV (y2 := 56) (vs := [.inl x0]) (st := []) dX7_lampsTired_12 (by decide +kernel) rfl (by decide +kernel) (Nat.le_of_ble_eq_true rfl) (eSm_4 (by simp)) 6 rfl (by decide) ha
theorem s66_15 (h0 : a ≠ 0) : wp 66 15 [l0, l1, l2, l3] [.inr (.inl a)] h Q ↔ wp 66 16 [l0, l1, l2, .inr (.inl a)] [] h Q := wp_step dX7_lampsTired_15 (fun _ => (if_neg h0).trans rfl)
theorem s66_16  : wp 66 16 [l0, .inl x, l2, l3] [] h Q ↔ wp 66 17 [l0, .inl x, l2, l3] [.inl x] h Q := wp_step dX7_lampsTired_16 (fun _ => rfl)
theorem s66_17 (h0 : a ≠ 0) : wp 66 17 [l0, l1, l2, .inr (.inl a)] [v0] h Q ↔ wp 66 18 [l0, l1, l2, .inr (.inl a)] [.inr (.inl a), v0] h Q := wp_step dX7_lampsTired_17 (fun _ => if_neg h0)
theorem s66_18 (ha : tg a = 3) : wp 66 18 [l0, l1, l2, l3] [.inr (.inl a), v0] (hp S D) Q ↔ wp 29 0 [.inr (.inl a)] [] (hp S D) (kont 66 21 [l0, l1, l2, l3] [v0] Q) := w_callV (y2 := 29) (vs := []) (st := [v0]) dX7_lampsTired_18 (by decide +kernel) rfl (by decide +kernel) (Nat.le_of_ble_eq_true rfl) (eSm_4 (by simp)) 3 rfl (by decide) ha
theorem s66_21  : wp 66 21 [l0, l1, l2, l3] [.inl x, v0] h Q ↔ if x = 0 then wp 66 35 [l0, l1, l2, l3] [v0] h Q else wp 66 24 [l0, l1, l2, l3] [v0] h Q := w_eq0 dX7_lampsTired_21 (by decide)
theorem s66_24 (h0 : a ≠ 0) : wp 66 24 [l0, l1, l2, .inr (.inl a)] [v0] h Q ↔ wp 66 25 [l0, l1, l2, .inr (.inl a)] [.inr (.inl a), v0] h Q := wp_step dX7_lampsTired_24 (fun _ => if_neg h0)
theorem s66_25 (ha : tg a = 3) : wp 66 25 [l0, l1, l2, l3] [.inr (.inl a), v0] (hp S D) Q ↔ wp 66 28 [l0, l1, l2, l3] [.inl (D a 5), v0] (hp S D) Q := w_getI dX7_lampsTired_25 (t := 3) (j := 5) (c := 1) (by decide +kernel) (by decide) rfl (ln_ok (by decide) (by decide)) ha
theorem s66_28  : wp 66 28 [l0, l1, l2, l3] [.inl x, v0] h Q ↔ if x = 0 then wp 66 35 [l0, l1, l2, l3] [v0] h Q else wp 66 31 [l0, l1, l2, l3] [v0] h Q := w_eq0 dX7_lampsTired_28 (by decide)
theorem s66_31  : wp 66 31 [l0, l1, l2, l3] [v0] h Q ↔ wp 66 32 [l0, l1, l2, l3] [.inl 1, v0] h Q := w_const1 dX7_lampsTired_31 k_1
theorem s66_32  : wp 66 32 [l0, l1, l2, l3] [v0, v1] h Q ↔ wp 66 36 [l0, l1, l2, l3] [v0, v1] h Q := w_goto dX7_lampsTired_32 (by decide)
theorem s66_35  : wp 66 35 [l0, l1, l2, l3] [v0] h Q ↔ wp 66 36 [l0, l1, l2, l3] [.inl 0, v0] h Q := w_const1 dX7_lampsTired_35 k_0
theorem s66_36  : wp 66 36 [l0, l1, l2, l3] [.inl x0, v0] h Q ↔ wp 97 0 [.inl x0] [] h (kont 66 39 [l0, l1, l2, l3] [v0] Q) := w_callS (y2 := 97) (kd := 3) (vs := [.inl x0]) (st := [v0]) dX7_lampsTired_36 (by decide +kernel) (by decide) rfl (by decide +kernel) (Nat.le_of_ble_eq_true rfl) (eSm_4 (by simp))
theorem s66_39  : wp 66 39 [l0, l1, l2, l3] [.inl z, .inl x] h Q ↔ wp 66 40 [l0, l1, l2, l3] [.inl (w32 (x + z))] h Q := wp_step dX7_lampsTired_39 (fun _ => rfl)
theorem s66_40  : wp 66 40 [l0, l1, l2, l3] [.inl x] h Q ↔ wp 66 41 [l0, .inl x, l2, l3] [] h Q := wp_step dX7_lampsTired_40 (fun _ => rfl)
theorem s66_41  : wp 66 41 [l0, l1, .inl x, l3] [] h Q ↔ wp 66 44 [l0, l1, .inl (w32 (x + 1)), l3] [] h Q := wp_step dX7_lampsTired_41 (fun _ => rfl)
theorem s66_44  : wp 66 44 [l0, l1, l2, l3] [] h Q ↔ wp 66 4 [l0, l1, l2, l3] [] h Q := w_goto dX7_lampsTired_44 (by decide)
theorem s66_47  : wp 66 47 [l0, .inl x, l2, l3] [] h Q ↔ wp 66 48 [l0, .inl x, l2, l3] [.inl x] h Q := wp_step dX7_lampsTired_47 (fun _ => rfl)
theorem s66_48  : wp 66 48 [l0, l1, l2, l3] [.inl x] h Q ↔ Q (some (.inl x)) h := w_reti dX7_lampsTired_48 (e_ri (by decide +kernel))
theorem s67_0 (h0 : a ≠ 0) : wp 67 0 [.inr (.inl a)] [] h Q ↔ wp 67 1 [.inr (.inl a)] [.inr (.inl a)] h Q := wp_step dX8_init_0 (fun _ => if_neg h0)
theorem s67_1 (h8 : 8 ≤ a) : wp 67 1 [l0] [.inr (.inl a)] h Q ↔ wp 67 4 [l0] [] h Q := w_callO dX8_init_1 (y2 := 0) (by decide +kernel) ⟨eSm_4 (by simp), by decide +kernel, by decide +kernel⟩ h8
theorem s67_4 (h0 : a ≠ 0) : wp 67 4 [.inr (.inl a)] [] h Q ↔ wp 67 5 [.inr (.inl a)] [.inr (.inl a)] h Q := wp_step dX8_init_4 (fun _ => if_neg h0)
theorem s67_8  : wp 67 8 [l0] [.inr (.inl a0), v0] h Q ↔ wp 67 9 [l0] [.inr (.inl a0), .inr (.inl a0), v0] h Q := wp_step dX8_init_8 (fun _ => rfl)
theorem s67_9 (h8 : 8 ≤ a) : wp 67 9 [l0] [.inr (.inl a), v0, v1] h Q ↔ wp 0 0 [.inr (.inl a), .inr (.inl 0)] [] h (kont 67 12 [l0] [v0, v1] Q) := w_callI (y2 := 0) (vs := []) (st := [v0, v1]) dX8_init_9 (by decide +kernel) rfl (by decide +kernel) (Nat.le_of_ble_eq_true rfl) (eSm_4 (by simp)) h8
theorem s67_15 (h0 : a ≠ 0) : wp 67 15 [.inr (.inl a)] [] h Q ↔ wp 67 16 [.inr (.inl a)] [.inr (.inl a)] h Q := wp_step dX8_init_15 (fun _ => if_neg h0)
theorem s67_19  : wp 67 19 [l0] [.inr (.inl a0), v0] h Q ↔ wp 67 20 [l0] [.inr (.inl a0), .inr (.inl a0), v0] h Q := wp_step dX8_init_19 (fun _ => rfl)
theorem s67_20 (h8 : 8 ≤ a) : wp 67 20 [l0] [.inr (.inl a), v0, v1] h Q ↔ wp 0 0 [.inr (.inl a), .inr (.inl 0)] [] h (kont 67 23 [l0] [v0, v1] Q) := w_callI (y2 := 0) (vs := []) (st := [v0, v1]) dX8_init_20 (by decide +kernel) rfl (by decide +kernel) (Nat.le_of_ble_eq_true rfl) (eSm_4 (by simp)) h8
theorem s67_26 (h0 : a ≠ 0) : wp 67 26 [.inr (.inl a)] [] h Q ↔ wp 67 27 [.inr (.inl a)] [.inr (.inl a)] h Q := wp_step dX8_init_26 (fun _ => if_neg h0)
theorem s67_30  : wp 67 30 [l0] [.inr (.inl a0), v0] h Q ↔ wp 67 31 [l0] [.inr (.inl a0), .inr (.inl a0), v0] h Q := wp_step dX8_init_30 (fun _ => rfl)
theorem s67_31 (h8 : 8 ≤ a) : wp 67 31 [l0] [.inr (.inl a), v0, v1] h Q ↔ wp 0 0 [.inr (.inl a), .inr (.inl 0)] [] h (kont 67 34 [l0] [v0, v1] Q) := w_callI (y2 := 0) (vs := []) (st := [v0, v1]) dX8_init_31 (by decide +kernel) rfl (by decide +kernel) (Nat.le_of_ble_eq_true rfl) (eSm_4 (by simp)) h8
theorem s67_37 (h0 : a ≠ 0) : wp 67 37 [.inr (.inl a)] [] h Q ↔ wp 67 38 [.inr (.inl a)] [.inr (.inl a)] h Q := wp_step dX8_init_37 (fun _ => if_neg h0)
theorem s67_41  : wp 67 41 [l0] [.inr (.inl a0), v0] h Q ↔ wp 67 42 [l0] [.inr (.inl a0), .inr (.inl a0), v0] h Q := wp_step dX8_init_41 (fun _ => rfl)
theorem s67_42 (h8 : 8 ≤ a) : wp 67 42 [l0] [.inr (.inl a), v0, v1] h Q ↔ wp 23 0 [.inr (.inl a)] [] h (kont 67 45 [l0] [v0, v1] Q) := w_callI (y2 := 23) (vs := []) (st := [v0, v1]) dX8_init_42 (by decide +kernel) rfl (by decide +kernel) (Nat.le_of_ble_eq_true rfl) (eSm_4 (by simp)) h8
theorem s67_48 (h0 : a ≠ 0) : wp 67 48 [.inr (.inl a)] [] h Q ↔ wp 67 49 [.inr (.inl a)] [.inr (.inl a)] h Q := wp_step dX8_init_48 (fun _ => if_neg h0)
theorem s67_52  : wp 67 52 [l0] [.inr (.inl a0), v0] h Q ↔ wp 67 53 [l0] [.inr (.inl a0), .inr (.inl a0), v0] h Q := wp_step dX8_init_52 (fun _ => rfl)
theorem s67_53 (h8 : 8 ≤ a) : wp 67 53 [l0] [.inr (.inl a), v0, v1] h Q ↔ wp 19 0 [.inr (.inl a), .inr (.inl 0)] [] h (kont 67 56 [l0] [v0, v1] Q) := w_callI (y2 := 19) (vs := []) (st := [v0, v1]) dX8_init_53 (by decide +kernel) rfl (by decide +kernel) (Nat.le_of_ble_eq_true rfl) (eSm_4 (by simp)) h8
theorem s67_59 (h0 : a ≠ 0) : wp 67 59 [.inr (.inl a)] [] h Q ↔ wp 67 60 [.inr (.inl a)] [.inr (.inl a)] h Q := wp_step dX8_init_59 (fun _ => if_neg h0)
theorem s67_63  : wp 67 63 [l0] [.inr (.inl a0), v0] h Q ↔ wp 67 64 [l0] [.inr (.inl a0), .inr (.inl a0), v0] h Q := wp_step dX8_init_63 (fun _ => rfl)
theorem s67_64 (h8 : 8 ≤ a) : wp 67 64 [l0] [.inr (.inl a), v0, v1] h Q ↔ wp 43 0 [.inr (.inl a)] [] h (kont 67 67 [l0] [v0, v1] Q) := w_callI (y2 := 43) (vs := []) (st := [v0, v1]) dX8_init_64 (by decide +kernel) rfl (by decide +kernel) (Nat.le_of_ble_eq_true rfl) (eSm_4 (by simp)) h8
theorem s67_70 (h0 : a ≠ 0) : wp 67 70 [.inr (.inl a)] [] h Q ↔ wp 67 71 [.inr (.inl a)] [.inr (.inl a)] h Q := wp_step dX8_init_70 (fun _ => if_neg h0)
theorem s67_74  : wp 67 74 [l0] [.inr (.inl a0), v0] h Q ↔ wp 67 75 [l0] [.inr (.inl a0), .inr (.inl a0), v0] h Q := wp_step dX8_init_74 (fun _ => rfl)
theorem s67_75 (h8 : 8 ≤ a) : wp 67 75 [l0] [.inr (.inl a), v0, v1] h Q ↔ wp 35 0 [.inr (.inl a)] [] h (kont 67 78 [l0] [v0, v1] Q) := w_callI (y2 := 35) (vs := []) (st := [v0, v1]) dX8_init_75 (by decide +kernel) rfl (by decide +kernel) (Nat.le_of_ble_eq_true rfl) (eSm_4 (by simp)) h8
theorem s67_81 (h0 : a ≠ 0) : wp 67 81 [.inr (.inl a)] [] h Q ↔ wp 67 82 [.inr (.inl a)] [.inr (.inl a)] h Q := wp_step dX8_init_81 (fun _ => if_neg h0)
theorem s67_82  : wp 67 82 [l0] [v0] h Q ↔ wp 67 83 [l0] [.inl 0, v0] h Q := w_const1 dX8_init_82 k_0
theorem s67_86  : wp 67 86 [l0] [] h Q ↔ Q none h := w_retv dX8_init_86 (by decide +kernel)
theorem s68_0  : wp 68 0 [l0, .inl x, l2, l3] [] h Q ↔ wp 68 1 [l0, .inl x, l2, l3] [.inl x] h Q := wp_step dX8_set_0 (fun _ => rfl)
theorem s68_1  : wp 68 1 [l0, l1, l2, l3] [.inl x0] h Q ↔ wp 92 0 [.inl x0] [] h (kont 68 4 [l0, l1, l2, l3] [] Q) := w_callS (y2 := 92) (kd := 0) (vs := [.inl x0]) (st := []) dX8_set_1 (by decide +kernel) (by decide) rfl (by decide +kernel) (Nat.le_of_ble_eq_true rfl) (eSm_4 (by simp))
theorem s68_4  : wp 68 4 [l0, l1, l2, l3] [.inl x] h Q ↔ if x = 0 then wp 68 7 [l0, l1, l2, l3] [] h Q else wp 68 9 [l0, l1, l2, l3] [] h Q := w_ne0 dX8_set_4 (by decide)
theorem s68_7  : wp 68 7 [l0, l1, l2, l3] [] h Q ↔ wp 68 8 [l0, l1, l2, l3] [.inl (-1)] h Q := w_const1 dX8_set_7 k_m1
theorem s68_8  : wp 68 8 [l0, l1, l2, l3] [.inl x] h Q ↔ Q (some (.inl x)) h := w_reti dX8_set_8 (e_ri (by decide +kernel))
theorem s68_9  : wp 68 9 [l0, l1, .inl x, l3] [] h Q ↔ wp 68 10 [l0, l1, .inl x, l3] [.inl x] h Q := wp_step dX8_set_9 (fun _ => rfl)
theorem s68_10  : wp 68 10 [l0, l1, l2, l3] [v0] h Q ↔ wp 68 13 [l0, l1, l2, l3] [.inr (.inl 5), v0] h Q := w_stat dX8_set_10 (by decide +kernel)
theorem s68_13  : wp 68 13 [l0, .inl x, l2, l3] [v0, v1] h Q ↔ wp 68 14 [l0, .inl x, l2, l3] [.inl x, v0, v1] h Q := wp_step dX8_set_13 (fun _ => rfl)
theorem s68_14  : wp 68 14 [l0, l1, l2, l3] [.inl x1, .inr (.inl a0), v0] h Q ↔ wp 51 0 [.inr (.inl a0), .inl x1] [] h (kont 68 17 [l0, l1, l2, l3] [v0] Q) := w_callS (y2 := 51) (kd := 0) (vs := [.inr (.inl a0), .inl x1]) (st := [v0]) dX8_set_14 (by decide +kernel) (by decide) rfl (by decide +kernel) (Nat.le_of_ble_eq_true rfl) (eSm_4 (by simp))
theorem s68_17  : wp 68 17 [l0, l1, l2, l3] [v0, v1] h Q ↔ wp 68 20 [l0, l1, l2, l3] [.inr (.inl 6), v0, v1] h Q := w_stat dX8_set_17 (by decide +kernel)
theorem s68_20  : wp 68 20 [l0, .inl x, l2, l3] [v0, v1, v2] h Q ↔ wp 68 21 [l0, .inl x, l2, l3] [.inl x, v0, v1, v2] h Q := wp_step dX8_set_20 (fun _ => rfl)
theorem s68_21  : wp 68 21 [l0, l1, l2, l3] [.inl x1, .inr (.inl a0), v0, v1] h Q ↔ wp 51 0 [.inr (.inl a0), .inl x1] [] h (kont 68 24 [l0, l1, l2, l3] [v0, v1] Q) := w_callS (y2 := 51) (kd := 0) (vs := [.inr (.inl a0), .inl x1]) (st := [v0, v1]) dX8_set_21 (by decide +kernel) (by decide) rfl (by decide +kernel) (Nat.le_of_ble_eq_true rfl) (eSm_4 (by simp))
theorem s68_24  : wp 68 24 [l0, l1, l2, l3] [.inl x2, .inl x1, .inl x0] h Q ↔ wp 91 0 [.inl x0, .inl x1, .inl x2] [] h (kont 68 27 [l0, l1, l2, l3] [] Q) := w_callS (y2 := 91) (kd := 0) (vs := [.inl x0, .inl x1, .inl x2]) (st := []) dX8_set_24 (by decide +kernel) (by decide) rfl (by decide +kernel) (Nat.le_of_ble_eq_true rfl) (eSm_4 (by simp))
theorem s68_27  : wp 68 27 [l0, l1, l2, l3] [.inl x] h Q ↔ if x = 0 then wp 68 30 [l0, l1, l2, l3] [] h Q else wp 68 33 [l0, l1, l2, l3] [] h Q := w_ne0 dX8_set_27 (by decide)
theorem s68_30  : wp 68 30 [l0, l1, l2, l3] [] h Q ↔ wp 68 32 [l0, l1, l2, l3] [.inl (-2)] h Q := w_const2 dX8_set_30 k_m2 k8_m2
theorem s68_32  : wp 68 32 [l0, l1, l2, l3] [.inl x] h Q ↔ Q (some (.inl x)) h := w_reti dX8_set_32 (e_ri (by decide +kernel))
theorem s68_33 (h0 : a ≠ 0) : wp 68 33 [.inr (.inl a), l1, l2, l3] [] h Q ↔ wp 68 34 [.inr (.inl a), l1, l2, l3] [.inr (.inl a)] h Q := wp_step dX8_set_33 (fun _ => if_neg h0)
theorem s68_34 (ha : tg a = 7) : wp 68 34 [l0, l1, l2, l3] [.inr (.inl a)] (hp S D) Q ↔ wp 68 37 [l0, l1, l2, l3] [.inr (.inl (a + 1))] (hp S D) Q := w_getR dX8_set_34 (t := 7) (j := 0) (c := 2) (by decide +kernel) (by decide) rfl (ln_ok (by decide) (by decide)) ha
theorem s68_37 (ha : tg a = 0) : wp 68 37 [l0, l1, l2, l3] [.inr (.inl a)] (hp S D) Q ↔ wp 68 40 [l0, l1, l2, l3] [.inr (.inl (a + 1))] (hp S D) Q := w_getR dX8_set_37 (t := 0) (j := 0) (c := 2) (by decide +kernel) (by decide) rfl (ln_ok (by decide) (by decide)) ha
theorem s68_40  : wp 68 40 [l0, .inl x, l2, l3] [v0] h Q ↔ wp 68 41 [l0, .inl x, l2, l3] [.inl x, v0] h Q := wp_step dX8_set_40 (fun _ => rfl)
theorem s68_41  : wp 68 41 [l0, l1, l2, l3] [.inl x1, .inr (.inl a0)] h Q ↔ wp 51 0 [.inr (.inl a0), .inl x1] [] h (kont 68 44 [l0, l1, l2, l3] [] Q) := w_callS (y2 := 51) (kd := 0) (vs := [.inr (.inl a0), .inl x1]) (st := []) dX8_set_41 (by decide +kernel) (by decide) rfl (by decide +kernel) (Nat.le_of_ble_eq_true rfl) (eSm_4 (by simp))
theorem s68_44  : wp 68 44 [l0, l1, l2, l3] [.inl x] h Q ↔ wp 68 45 [l0, l1, l2, .inl x] [] h Q := wp_step dX8_set_44 (fun _ => rfl)
theorem s68_45  : wp 68 45 [l0, l1, l2, .inl x] [] h Q ↔ wp 68 46 [l0, l1, l2, .inl x] [.inl x] h Q := wp_step dX8_set_45 (fun _ => rfl)
theorem s68_46  : wp 68 46 [l0, l1, .inl x, l3] [v0] h Q ↔ wp 68 47 [l0, l1, .inl x, l3] [.inl x, v0] h Q := wp_step dX8_set_46 (fun _ => rfl)
theorem s68_47  : wp 68 47 [l0, l1, l2, l3] [.inl z, .inl x] h Q ↔ if x = z then wp 68 50 [l0, l1, l2, l3] [] h Q else wp 68 53 [l0, l1, l2, l3] [] h Q := w_cne dX8_set_47 (by decide)
theorem s68_50  : wp 68 50 [l0, l1, l2, l3] [] h Q ↔ wp 68 52 [l0, l1, l2, l3] [.inl (-5)] h Q := w_const2 dX8_set_50 k_m5 k8_m5
theorem s68_52  : wp 68 52 [l0, l1, l2, l3] [.inl x] h Q ↔ Q (some (.inl x)) h := w_reti dX8_set_52 (e_ri (by decide +kernel))
theorem s68_53 (h0 : a ≠ 0) : wp 68 53 [.inr (.inl a), l1, l2, l3] [] h Q ↔ wp 68 54 [.inr (.inl a), l1, l2, l3] [.inr (.inl a)] h Q := wp_step dX8_set_53 (fun _ => if_neg h0)
theorem s68_54 (ha : tg a = 7) : wp 68 54 [l0, l1, l2, l3] [.inr (.inl a)] (hp S D) Q ↔ wp 68 57 [l0, l1, l2, l3] [.inr (.inl (a + 62))] (hp S D) Q := w_getR dX8_set_54 (t := 7) (j := 4) (c := 2) (by decide +kernel) (by decide) rfl (ln_ok (by decide) (by decide)) ha
theorem s68_57 (h0 : a ≠ 0) : wp 68 57 [.inr (.inl a), l1, l2, l3] [v0] h Q ↔ wp 68 58 [.inr (.inl a), l1, l2, l3] [.inr (.inl a), v0] h Q := wp_step dX8_set_57 (fun _ => if_neg h0)
theorem s68_58 (ha : tg a = 7) : wp 68 58 [l0, l1, l2, l3] [.inr (.inl a), v0] (hp S D) Q ↔ wp 68 61 [l0, l1, l2, l3] [.inr (.inl (a + 1)), v0] (hp S D) Q := w_getR dX8_set_58 (t := 7) (j := 0) (c := 2) (by decide +kernel) (by decide) rfl (ln_ok (by decide) (by decide)) ha
theorem s68_61 (ha : tg a = 2) : wp 68 61 [l0, l1, l2, l3] [.inr (.inl a0), .inr (.inl a)] (hp S D) Q ↔ wp 20 0 [.inr (.inl a), .inr (.inl a0), .inr (.inl 0)] [] (hp S D) (kont 68 64 [l0, l1, l2, l3] [] Q) := w_callV (y2 := 20) (vs := [.inr (.inl a0)]) (st := []) dX8_set_61 (by decide +kernel) rfl (by decide +kernel) (Nat.le_of_ble_eq_true rfl) (eSm_4 (by simp)) 2 rfl (by decide) ha
theorem s68_64 (h0 : a ≠ 0) : wp 68 64 [.inr (.inl a), l1, l2, l3] [] h Q ↔ wp 68 65 [.inr (.inl a), l1, l2, l3] [.inr (.inl a)] h Q := wp_step dX8_set_64 (fun _ => if_neg h0)
theorem s68_65 (ha : tg a = 7) : wp 68 65 [l0, l1, l2, l3] [.inr (.inl a)] (hp S D) Q ↔ wp 68 68 [l0, l1, l2, l3] [.inr (.inl (a + 1))] (hp S D) Q := w_getR dX8_set_65 (t := 7) (j := 0) (c := 2) (by decide +kernel) (by decide) rfl (ln_ok (by decide) (by decide)) ha
theorem s68_68 (ha : tg a = 0) : wp 68 68 [l0, l1, l2, l3] [.inr (.inl a)] (hp S D) Q ↔ wp 68 71 [l0, l1, l2, l3] [.inr (.inl (a + 1))] (hp S D) Q := w_getR dX8_set_68 (t := 0) (j := 0) (c := 2) (by decide +kernel) (by decide) rfl (ln_ok (by decide) (by decide)) ha
theorem s68_71  : wp 68 71 [l0, .inl x, l2, l3] [v0] h Q ↔ wp 68 72 [l0, .inl x, l2, l3] [.inl x, v0] h Q := wp_step dX8_set_71 (fun _ => rfl)
theorem s68_72  : wp 68 72 [l0, l1, .inl x, l3] [v0, v1] h Q ↔ wp 68 73 [l0, l1, .inl x, l3] [.inl x, v0, v1] h Q := wp_step dX8_set_72 (fun _ => rfl)
theorem s68_73  : wp 68 73 [l0, l1, l2, l3] [.inl x2, .inl x1, .inr (.inl a0)] h Q ↔ wp 52 0 [.inr (.inl a0), .inl x1, .inl x2] [] h (kont 68 76 [l0, l1, l2, l3] [] Q) := w_callS (y2 := 52) (kd := 0) (vs := [.inr (.inl a0), .inl x1, .inl x2]) (st := []) dX8_set_73 (by decide +kernel) (by decide) rfl (by decide +kernel) (Nat.le_of_ble_eq_true rfl) (eSm_4 (by simp))
theorem s68_76  : wp 68 76 [l0, l1, l2, .inl x] [] h Q ↔ wp 68 77 [l0, l1, l2, .inl x] [.inl x] h Q := wp_step dX8_set_76 (fun _ => rfl)
theorem s68_77  : wp 68 77 [l0, l1, l2, l3] [.inl x] h Q ↔ Q (some (.inl x)) h := w_reti dX8_set_77 (e_ri (by decide +kernel))
theorem s69_0  : wp 69 0 [l0, .inl x, l2] [] h Q ↔ wp 69 1 [l0, .inl x, l2] [.inl x] h Q := wp_step dX8_setNight_0 (fun _ => rfl)
theorem s69_1  : wp 69 1 [l0, l1, l2] [.inl x0] h Q ↔ wp 93 0 [.inl x0] [] h (kont 69 4 [l0, l1, l2] [] Q) := w_callS (y2 := 93) (kd := 0) (vs := [.inl x0]) (st := []) dX8_setNight_1 (by decide +kernel) (by decide) rfl (by decide +kernel) (Nat.le_of_ble_eq_true rfl) (eSm_4 (by simp))
theorem s69_4  : wp 69 4 [l0, l1, l2] [.inl x] h Q ↔ if x = 0 then wp 69 19 [l0, l1, l2] [] h Q else wp 69 7 [l0, l1, l2] [] h Q := w_eq0 dX8_setNight_4 (by decide)
theorem s69_7  : wp 69 7 [l0, l1, .inl x] [] h Q ↔ wp 69 8 [l0, l1, .inl x] [.inl x] h Q := wp_step dX8_setNight_7 (fun _ => rfl)
theorem s69_8  : wp 69 8 [l0, l1, l2] [.inl x0] h Q ↔ wp 93 0 [.inl x0] [] h (kont 69 11 [l0, l1, l2] [] Q) := w_callS (y2 := 93) (kd := 0) (vs := [.inl x0]) (st := []) dX8_setNight_8 (by decide +kernel) (by decide) rfl (by decide +kernel) (Nat.le_of_ble_eq_true rfl) (eSm_4 (by simp))
theorem s69_11  : wp 69 11 [l0, l1, l2] [.inl x] h Q ↔ if x = 0 then wp 69 19 [l0, l1, l2] [] h Q else wp 69 14 [l0, l1, l2] [] h Q := w_eq0 dX8_setNight_11 (by decide)
theorem s69_14  : wp 69 14 [l0, .inl x, l2] [] h Q ↔ wp 69 15 [l0, .inl x, l2] [.inl x] h Q := wp_step dX8_setNight_14 (fun _ => rfl)
theorem s69_15  : wp 69 15 [l0, l1, .inl x] [v0] h Q ↔ wp 69 16 [l0, l1, .inl x] [.inl x, v0] h Q := wp_step dX8_setNight_15 (fun _ => rfl)
theorem s69_16  : wp 69 16 [l0, l1, l2] [.inl z, .inl x] h Q ↔ if x = z then wp 69 19 [l0, l1, l2] [] h Q else wp 69 22 [l0, l1, l2] [] h Q := w_cne dX8_setNight_16 (by decide)
theorem s69_19  : wp 69 19 [l0, l1, l2] [] h Q ↔ wp 69 21 [l0, l1, l2] [.inl (-2)] h Q := w_const2 dX8_setNight_19 k_m2 k8_m2
theorem s69_21  : wp 69 21 [l0, l1, l2] [.inl x] h Q ↔ Q (some (.inl x)) h := w_reti dX8_setNight_21 (e_ri (by decide +kernel))
theorem s69_22 (h0 : a ≠ 0) : wp 69 22 [.inr (.inl a), l1, l2] [] h Q ↔ wp 69 23 [.inr (.inl a), l1, l2] [.inr (.inl a)] h Q := wp_step dX8_setNight_22 (fun _ => if_neg h0)
theorem s69_23 (ha : tg a = 7) : wp 69 23 [l0, l1, l2] [.inr (.inl a)] (hp S D) Q ↔ wp 69 26 [l0, l1, l2] [.inr (.inl (a + 1))] (hp S D) Q := w_getR dX8_setNight_23 (t := 7) (j := 0) (c := 2) (by decide +kernel) (by decide) rfl (ln_ok (by decide) (by decide)) ha
theorem s69_26 (ha : tg a = 0) : wp 69 26 [l0, l1, l2] [.inr (.inl a)] (hp S D) Q ↔ wp 69 29 [l0, l1, l2] [.inl (D a 6)] (hp S D) Q := w_getI dX8_setNight_26 (t := 0) (j := 6) (c := 0) (by decide +kernel) (by decide) rfl (ln_ok (by decide) (by decide)) ha
theorem s69_29  : wp 69 29 [l0, .inl x, l2] [v0] h Q ↔ wp 69 30 [l0, .inl x, l2] [.inl x, v0] h Q := wp_step dX8_setNight_29 (fun _ => rfl)
theorem s69_30  : wp 69 30 [l0, l1, l2] [.inl z, .inl x] h Q ↔ if x = z then wp 69 33 [l0, l1, l2] [] h Q else wp 69 47 [l0, l1, l2] [] h Q := w_cne dX8_setNight_30 (by decide)
theorem s69_33 (h0 : a ≠ 0) : wp 69 33 [.inr (.inl a), l1, l2] [] h Q ↔ wp 69 34 [.inr (.inl a), l1, l2] [.inr (.inl a)] h Q := wp_step dX8_setNight_33 (fun _ => if_neg h0)
theorem s69_34 (ha : tg a = 7) : wp 69 34 [l0, l1, l2] [.inr (.inl a)] (hp S D) Q ↔ wp 69 37 [l0, l1, l2] [.inr (.inl (a + 1))] (hp S D) Q := w_getR dX8_setNight_34 (t := 7) (j := 0) (c := 2) (by decide +kernel) (by decide) rfl (ln_ok (by decide) (by decide)) ha
theorem s69_37 (ha : tg a = 0) : wp 69 37 [l0, l1, l2] [.inr (.inl a)] (hp S D) Q ↔ wp 69 40 [l0, l1, l2] [.inl (D a 7)] (hp S D) Q := w_getI dX8_setNight_37 (t := 0) (j := 7) (c := 0) (by decide +kernel) (by decide) rfl (ln_ok (by decide) (by decide)) ha
theorem s69_40  : wp 69 40 [l0, l1, .inl x] [v0] h Q ↔ wp 69 41 [l0, l1, .inl x] [.inl x, v0] h Q := wp_step dX8_setNight_40 (fun _ => rfl)
theorem s69_41  : wp 69 41 [l0, l1, l2] [.inl z, .inl x] h Q ↔ if x = z then wp 69 44 [l0, l1, l2] [] h Q else wp 69 47 [l0, l1, l2] [] h Q := w_cne dX8_setNight_41 (by decide)
theorem s69_44  : wp 69 44 [l0, l1, l2] [] h Q ↔ wp 69 46 [l0, l1, l2] [.inl (-5)] h Q := w_const2 dX8_setNight_44 k_m5 k8_m5
theorem s69_46  : wp 69 46 [l0, l1, l2] [.inl x] h Q ↔ Q (some (.inl x)) h := w_reti dX8_setNight_46 (e_ri (by decide +kernel))
theorem s69_47 (h0 : a ≠ 0) : wp 69 47 [.inr (.inl a), l1, l2] [] h Q ↔ wp 69 48 [.inr (.inl a), l1, l2] [.inr (.inl a)] h Q := wp_step dX8_setNight_47 (fun _ => if_neg h0)
theorem s69_48 (ha : tg a = 7) : wp 69 48 [l0, l1, l2] [.inr (.inl a)] (hp S D) Q ↔ wp 69 51 [l0, l1, l2] [.inr (.inl (a + 62))] (hp S D) Q := w_getR dX8_setNight_48 (t := 7) (j := 4) (c := 2) (by decide +kernel) (by decide) rfl (ln_ok (by decide) (by decide)) ha
theorem s69_51 (h0 : a ≠ 0) : wp 69 51 [.inr (.inl a), l1, l2] [v0] h Q ↔ wp 69 52 [.inr (.inl a), l1, l2] [.inr (.inl a), v0] h Q := wp_step dX8_setNight_51 (fun _ => if_neg h0)
theorem s69_52 (ha : tg a = 7) : wp 69 52 [l0, l1, l2] [.inr (.inl a), v0] (hp S D) Q ↔ wp 69 55 [l0, l1, l2] [.inr (.inl (a + 1)), v0] (hp S D) Q := w_getR dX8_setNight_52 (t := 7) (j := 0) (c := 2) (by decide +kernel) (by decide) rfl (ln_ok (by decide) (by decide)) ha
theorem s69_55 (ha : tg a = 2) : wp 69 55 [l0, l1, l2] [.inr (.inl a0), .inr (.inl a)] (hp S D) Q ↔ wp 20 0 [.inr (.inl a), .inr (.inl a0), .inr (.inl 0)] [] (hp S D) (kont 69 58 [l0, l1, l2] [] Q) := w_callV (y2 := 20) (vs := [.inr (.inl a0)]) (st := []) dX8_setNight_55 (by decide +kernel) rfl (by decide +kernel) (Nat.le_of_ble_eq_true rfl) (eSm_4 (by simp)) 2 rfl (by decide) ha
theorem s69_58 (h0 : a ≠ 0) : wp 69 58 [.inr (.inl a), l1, l2] [] h Q ↔ wp 69 59 [.inr (.inl a), l1, l2] [.inr (.inl a)] h Q := wp_step dX8_setNight_58 (fun _ => if_neg h0)
theorem s69_59 (ha : tg a = 7) : wp 69 59 [l0, l1, l2] [.inr (.inl a)] (hp S D) Q ↔ wp 69 62 [l0, l1, l2] [.inr (.inl (a + 1))] (hp S D) Q := w_getR dX8_setNight_59 (t := 7) (j := 0) (c := 2) (by decide +kernel) (by decide) rfl (ln_ok (by decide) (by decide)) ha
theorem s69_62  : wp 69 62 [l0, .inl x, l2] [v0] h Q ↔ wp 69 63 [l0, .inl x, l2] [.inl x, v0] h Q := wp_step dX8_setNight_62 (fun _ => rfl)
theorem s69_63 (ha : tg a = 0) : wp 69 63 [l0, l1, l2] [.inl z, .inr (.inl a)] (hp S D) Q ↔ wp 69 66 [l0, l1, l2] [] (hp S (up D a 6 z)) Q := w_put dX8_setNight_63 (t := 0) (j := 6) (c := 0) (by decide +kernel) (by decide +kernel) (by decide) rfl (ln_ok (by decide) (by decide)) (Or.inl rfl) ha
theorem s69_66 (h0 : a ≠ 0) : wp 69 66 [.inr (.inl a), l1, l2] [] h Q ↔ wp 69 67 [.inr (.inl a), l1, l2] [.inr (.inl a)] h Q := wp_step dX8_setNight_66 (fun _ => if_neg h0)
theorem s69_67 (ha : tg a = 7) : wp 69 67 [l0, l1, l2] [.inr (.inl a)] (hp S D) Q ↔ wp 69 70 [l0, l1, l2] [.inr (.inl (a + 1))] (hp S D) Q := w_getR dX8_setNight_67 (t := 7) (j := 0) (c := 2) (by decide +kernel) (by decide) rfl (ln_ok (by decide) (by decide)) ha
theorem s69_70  : wp 69 70 [l0, l1, .inl x] [v0] h Q ↔ wp 69 71 [l0, l1, .inl x] [.inl x, v0] h Q := wp_step dX8_setNight_70 (fun _ => rfl)
theorem s69_71 (ha : tg a = 0) : wp 69 71 [l0, l1, l2] [.inl z, .inr (.inl a)] (hp S D) Q ↔ wp 69 74 [l0, l1, l2] [] (hp S (up D a 7 z)) Q := w_put dX8_setNight_71 (t := 0) (j := 7) (c := 0) (by decide +kernel) (by decide +kernel) (by decide) rfl (ln_ok (by decide) (by decide)) (Or.inl rfl) ha
theorem s69_74 (h0 : a ≠ 0) : wp 69 74 [.inr (.inl a), l1, l2] [] h Q ↔ wp 69 75 [.inr (.inl a), l1, l2] [.inr (.inl a)] h Q := wp_step dX8_setNight_74 (fun _ => if_neg h0)
theorem s69_75 (ha : tg a = 7) : wp 69 75 [l0, l1, l2] [.inr (.inl a)] (hp S D) Q ↔ wp 69 78 [l0, l1, l2] [.inr (.inl (a + 1))] (hp S D) Q := w_getR dX8_setNight_75 (t := 7) (j := 0) (c := 2) (by decide +kernel) (by decide) rfl (ln_ok (by decide) (by decide)) ha
theorem s69_78 (ha : tg a = 0) : wp 69 78 [l0, l1, l2] [.inr (.inl a)] (hp S D) Q ↔ wp 2 0 [.inr (.inl a)] [] (hp S D) (kont 69 81 [l0, l1, l2] [] Q) := w_callV (y2 := 2) (vs := []) (st := []) dX8_setNight_78 (by decide +kernel) rfl (by decide +kernel) (Nat.le_of_ble_eq_true rfl) (eSm_4 (by simp)) 0 rfl (by decide) ha
theorem s69_81  : wp 69 81 [l0, l1, l2] [.inl x] h Q ↔ Q (some (.inl x)) h := w_reti dX8_setNight_81 (e_ri (by decide +kernel))
theorem s70_0  : wp 70 0 [l0, .inl x, l2, l3, l4] [] h Q ↔ wp 70 1 [l0, .inl x, l2, l3, l4] [.inl x] h Q := wp_step dX8_putIn_0 (fun _ => rfl)
theorem s70_1  : wp 70 1 [l0, l1, l2, l3, l4] [.inl x0] h Q ↔ wp 94 0 [.inl x0] [] h (kont 70 4 [l0, l1, l2, l3, l4] [] Q) := w_callS (y2 := 94) (kd := 0) (vs := [.inl x0]) (st := []) dX8_putIn_1 (by decide +kernel) (by decide) rfl (by decide +kernel) (Nat.le_of_ble_eq_true rfl) (eSm_4 (by simp))
theorem s70_4  : wp 70 4 [l0, l1, l2, l3, l4] [.inl x] h Q ↔ if x = 0 then wp 70 7 [l0, l1, l2, l3, l4] [] h Q else wp 70 9 [l0, l1, l2, l3, l4] [] h Q := w_ne0 dX8_putIn_4 (by decide)
theorem s70_7  : wp 70 7 [l0, l1, l2, l3, l4] [] h Q ↔ wp 70 8 [l0, l1, l2, l3, l4] [.inl (-1)] h Q := w_const1 dX8_putIn_7 k_m1
theorem s70_8  : wp 70 8 [l0, l1, l2, l3, l4] [.inl x] h Q ↔ Q (some (.inl x)) h := w_reti dX8_putIn_8 (e_ri (by decide +kernel))
theorem s70_9  : wp 70 9 [l0, l1, .inl x, l3, l4] [] h Q ↔ wp 70 10 [l0, l1, .inl x, l3, l4] [.inl x] h Q := wp_step dX8_putIn_9 (fun _ => rfl)
theorem s70_10  : wp 70 10 [l0, l1, l2, l3, l4] [.inl x0] h Q ↔ wp 95 0 [.inl x0] [] h (kont 70 13 [l0, l1, l2, l3, l4] [] Q) := w_callS (y2 := 95) (kd := 0) (vs := [.inl x0]) (st := []) dX8_putIn_10 (by decide +kernel) (by decide) rfl (by decide +kernel) (Nat.le_of_ble_eq_true rfl) (eSm_4 (by simp))
theorem s70_13  : wp 70 13 [l0, l1, l2, l3, l4] [.inl x] h Q ↔ if x = 0 then wp 70 28 [l0, l1, l2, l3, l4] [] h Q else wp 70 16 [l0, l1, l2, l3, l4] [] h Q := w_eq0 dX8_putIn_13 (by decide)
theorem s70_16  : wp 70 16 [l0, l1, l2, .inl x, l4] [] h Q ↔ wp 70 17 [l0, l1, l2, .inl x, l4] [.inl x] h Q := wp_step dX8_putIn_16 (fun _ => rfl)
theorem s70_17  : wp 70 17 [l0, l1, l2, l3, l4] [v0] h Q ↔ wp 70 19 [l0, l1, l2, l3, l4] [.inl 50, v0] h Q := w_const2 dX8_putIn_17 k_50 k8_50
theorem s70_19  : wp 70 19 [l0, l1, l2, l3, l4] [v0, v1] h Q ↔ wp 70 22 [l0, l1, l2, l3, l4] [.inl 150, v0, v1] h Q := w_const3 dX8_putIn_19 k_150 k16_150
theorem s70_22  : wp 70 22 [l0, l1, l2, l3, l4] [.inl x2, .inl x1, .inl x0] h Q ↔ wp 91 0 [.inl x0, .inl x1, .inl x2] [] h (kont 70 25 [l0, l1, l2, l3, l4] [] Q) := w_callS (y2 := 91) (kd := 0) (vs := [.inl x0, .inl x1, .inl x2]) (st := []) dX8_putIn_22 (by decide +kernel) (by decide) rfl (by decide +kernel) (Nat.le_of_ble_eq_true rfl) (eSm_4 (by simp))
theorem s70_25  : wp 70 25 [l0, l1, l2, l3, l4] [.inl x] h Q ↔ if x = 0 then wp 70 28 [l0, l1, l2, l3, l4] [] h Q else wp 70 31 [l0, l1, l2, l3, l4] [] h Q := w_ne0 dX8_putIn_25 (by decide)
theorem s70_28  : wp 70 28 [l0, l1, l2, l3, l4] [] h Q ↔ wp 70 30 [l0, l1, l2, l3, l4] [.inl (-2)] h Q := w_const2 dX8_putIn_28 k_m2 k8_m2
theorem s70_30  : wp 70 30 [l0, l1, l2, l3, l4] [.inl x] h Q ↔ Q (some (.inl x)) h := w_reti dX8_putIn_30 (e_ri (by decide +kernel))
theorem s70_31 (h0 : a ≠ 0) : wp 70 31 [.inr (.inl a), l1, l2, l3, l4] [] h Q ↔ wp 70 32 [.inr (.inl a), l1, l2, l3, l4] [.inr (.inl a)] h Q := wp_step dX8_putIn_31 (fun _ => if_neg h0)
theorem s70_32 (ha : tg a = 7) : wp 70 32 [l0, l1, l2, l3, l4] [.inr (.inl a)] (hp S D) Q ↔ wp 70 35 [l0, l1, l2, l3, l4] [.inr (.inl (a + 1))] (hp S D) Q := w_getR dX8_putIn_32 (t := 7) (j := 0) (c := 2) (by decide +kernel) (by decide) rfl (ln_ok (by decide) (by decide)) ha
theorem s70_35 (ha : tg a = 0) : wp 70 35 [l0, l1, l2, l3, l4] [.inr (.inl a)] (hp S D) Q ↔ wp 70 38 [l0, l1, l2, l3, l4] [.inr (.inl (a + 3))] (hp S D) Q := w_getR dX8_putIn_35 (t := 0) (j := 2) (c := 2) (by decide +kernel) (by decide) rfl (ln_ok (by decide) (by decide)) ha
theorem s70_38  : wp 70 38 [l0, .inl x, l2, l3, l4] [v0] h Q ↔ wp 70 39 [l0, .inl x, l2, l3, l4] [.inl x, v0] h Q := wp_step dX8_putIn_38 (fun _ => rfl)
theorem s70_39 (ha : tg a = 6) : wp 70 39 [l0, l1, l2, l3, l4] [.inl x0, .inr (.inl a)] (hp S D) Q ↔ wp 56 0 [.inr (.inl a), .inl x0, .inr (.inl 0)] [] (hp S D) (kont 70 42 [l0, l1, l2, l3, l4] [] Q) := w_callV (y2 := 56) (vs := [.inl x0]) (st := []) dX8_putIn_39 (by decide +kernel) rfl (by decide +kernel) (Nat.le_of_ble_eq_true rfl) (eSm_4 (by simp)) 6 rfl (by decide) ha
theorem s70_42 (h0 : a ≠ 0) : wp 70 42 [l0, l1, l2, l3, l4] [.inr (.inl a)] h Q ↔ wp 70 44 [l0, l1, l2, l3, .inr (.inl a)] [] h Q := wp_step dX8_putIn_42 (fun _ => (if_neg h0).trans rfl)
theorem s70_44 (h0 : a ≠ 0) : wp 70 44 [l0, l1, l2, l3, .inr (.inl a)] [] h Q ↔ wp 70 46 [l0, l1, l2, l3, .inr (.inl a)] [.inr (.inl a)] h Q := wp_step dX8_putIn_44 (fun _ => if_neg h0)
theorem s70_46 (ha : tg a = 3) : wp 70 46 [l0, l1, l2, l3, l4] [.inr (.inl a)] (hp S D) Q ↔ wp 27 0 [.inr (.inl a)] [] (hp S D) (kont 70 49 [l0, l1, l2, l3, l4] [] Q) := w_callV (y2 := 27) (vs := []) (st := []) dX8_putIn_46 (by decide +kernel) rfl (by decide +kernel) (Nat.le_of_ble_eq_true rfl) (eSm_4 (by simp)) 3 rfl (by decide) ha
theorem s70_49  : wp 70 49 [l0, l1, l2, l3, l4] [.inl x] h Q ↔ if x = 0 then wp 70 55 [l0, l1, l2, l3, l4] [] h Q else wp 70 52 [l0, l1, l2, l3, l4] [] h Q := w_eq0 dX8_putIn_49 (by decide)
theorem s70_52  : wp 70 52 [l0, l1, l2, l3, l4] [] h Q ↔ wp 70 54 [l0, l1, l2, l3, l4] [.inl (-4)] h Q := w_const2 dX8_putIn_52 k_m4 k8_m4
theorem s70_54  : wp 70 54 [l0, l1, l2, l3, l4] [.inl x] h Q ↔ Q (some (.inl x)) h := w_reti dX8_putIn_54 (e_ri (by decide +kernel))
theorem s70_55 (h0 : a ≠ 0) : wp 70 55 [.inr (.inl a), l1, l2, l3, l4] [] h Q ↔ wp 70 56 [.inr (.inl a), l1, l2, l3, l4] [.inr (.inl a)] h Q := wp_step dX8_putIn_55 (fun _ => if_neg h0)
theorem s70_56 (ha : tg a = 7) : wp 70 56 [l0, l1, l2, l3, l4] [.inr (.inl a)] (hp S D) Q ↔ wp 70 59 [l0, l1, l2, l3, l4] [.inr (.inl (a + 62))] (hp S D) Q := w_getR dX8_putIn_56 (t := 7) (j := 4) (c := 2) (by decide +kernel) (by decide) rfl (ln_ok (by decide) (by decide)) ha
theorem s70_59 (h0 : a ≠ 0) : wp 70 59 [.inr (.inl a), l1, l2, l3, l4] [v0] h Q ↔ wp 70 60 [.inr (.inl a), l1, l2, l3, l4] [.inr (.inl a), v0] h Q := wp_step dX8_putIn_59 (fun _ => if_neg h0)
theorem s70_60 (ha : tg a = 7) : wp 70 60 [l0, l1, l2, l3, l4] [.inr (.inl a), v0] (hp S D) Q ↔ wp 70 63 [l0, l1, l2, l3, l4] [.inr (.inl (a + 1)), v0] (hp S D) Q := w_getR dX8_putIn_60 (t := 7) (j := 0) (c := 2) (by decide +kernel) (by decide) rfl (ln_ok (by decide) (by decide)) ha
theorem s70_63 (ha : tg a = 2) : wp 70 63 [l0, l1, l2, l3, l4] [.inr (.inl a0), .inr (.inl a)] (hp S D) Q ↔ wp 20 0 [.inr (.inl a), .inr (.inl a0), .inr (.inl 0)] [] (hp S D) (kont 70 66 [l0, l1, l2, l3, l4] [] Q) := w_callV (y2 := 20) (vs := [.inr (.inl a0)]) (st := []) dX8_putIn_63 (by decide +kernel) rfl (by decide +kernel) (Nat.le_of_ble_eq_true rfl) (eSm_4 (by simp)) 2 rfl (by decide) ha
theorem s70_66 (h0 : a ≠ 0) : wp 70 66 [l0, l1, l2, l3, .inr (.inl a)] [] h Q ↔ wp 70 68 [l0, l1, l2, l3, .inr (.inl a)] [.inr (.inl a)] h Q := wp_step dX8_putIn_66 (fun _ => if_neg h0)
theorem s70_68  : wp 70 68 [l0, l1, .inl x, l3, l4] [v0] h Q ↔ wp 70 69 [l0, l1, .inl x, l3, l4] [.inl x, v0] h Q := wp_step dX8_putIn_68 (fun _ => rfl)
theorem s70_69  : wp 70 69 [l0, l1, l2, .inl x, l4] [v0, v1] h Q ↔ wp 70 70 [l0, l1, l2, .inl x, l4] [.inl x, v0, v1] h Q := wp_step dX8_putIn_69 (fun _ => rfl)
theorem s70_70 (ha : tg a = 3) : wp 70 70 [l0, l1, l2, l3, l4] [.inl x1, .inl x0, .inr (.inl a)] (hp S D) Q ↔ wp 24 0 [.inr (.inl a), .inl x0, .inl x1] [] (hp S D) (kont 70 73 [l0, l1, l2, l3, l4] [] Q) := w_callV (y2 := 24) (vs := [.inl x0, .inl x1]) (st := []) dX8_putIn_70 (by decide +kernel) rfl (by decide +kernel) (Nat.le_of_ble_eq_true rfl) (eSm_4 (by simp)) 3 rfl (by decide) ha
theorem s70_73 (h0 : a ≠ 0) : wp 70 73 [l0, l1, l2, l3, .inr (.inl a)] [] h Q ↔ wp 70 75 [l0, l1, l2, l3, .inr (.inl a)] [.inr (.inl a)] h Q := wp_step dX8_putIn_73 (fun _ => if_neg h0)
theorem s70_75 (ha : tg a = 3) : wp 70 75 [l0, l1, l2, l3, l4] [.inr (.inl a)] (hp S D) Q ↔ wp 70 78 [l0, l1, l2, l3, l4] [.inl (D a 2)] (hp S D) Q := w_getI dX8_putIn_75 (t := 3) (j := 2) (c := 0) (by decide +kernel) (by decide) rfl (ln_ok (by decide) (by decide)) ha
theorem s70_78  : wp 70 78 [l0, l1, l2, l3, l4] [.inl x] h Q ↔ Q (some (.inl x)) h := w_reti dX8_putIn_78 (e_ri (by decide +kernel))
theorem s71_0  : wp 71 0 [l0, .inl x, l2, l3] [] h Q ↔ wp 71 1 [l0, .inl x, l2, l3] [.inl x] h Q := wp_step dX8_takeOut_0 (fun _ => rfl)
theorem s71_1  : wp 71 1 [l0, l1, l2, l3] [.inl x0] h Q ↔ wp 94 0 [.inl x0] [] h (kont 71 4 [l0, l1, l2, l3] [] Q) := w_callS (y2 := 94) (kd := 0) (vs := [.inl x0]) (st := []) dX8_takeOut_1 (by decide +kernel) (by decide) rfl (by decide +kernel) (Nat.le_of_ble_eq_true rfl) (eSm_4 (by simp))
theorem s71_4  : wp 71 4 [l0, l1, l2, l3] [.inl x] h Q ↔ if x = 0 then wp 71 7 [l0, l1, l2, l3] [] h Q else wp 71 9 [l0, l1, l2, l3] [] h Q := w_ne0 dX8_takeOut_4 (by decide)
theorem s71_7  : wp 71 7 [l0, l1, l2, l3] [] h Q ↔ wp 71 8 [l0, l1, l2, l3] [.inl (-1)] h Q := w_const1 dX8_takeOut_7 k_m1
theorem s71_8  : wp 71 8 [l0, l1, l2, l3] [.inl x] h Q ↔ Q (some (.inl x)) h := w_reti dX8_takeOut_8 (e_ri (by decide +kernel))
theorem s71_9 (h0 : a ≠ 0) : wp 71 9 [.inr (.inl a), l1, l2, l3] [] h Q ↔ wp 71 10 [.inr (.inl a), l1, l2, l3] [.inr (.inl a)] h Q := wp_step dX8_takeOut_9 (fun _ => if_neg h0)
theorem s71_10 (ha : tg a = 7) : wp 71 10 [l0, l1, l2, l3] [.inr (.inl a)] (hp S D) Q ↔ wp 71 13 [l0, l1, l2, l3] [.inr (.inl (a + 1))] (hp S D) Q := w_getR dX8_takeOut_10 (t := 7) (j := 0) (c := 2) (by decide +kernel) (by decide) rfl (ln_ok (by decide) (by decide)) ha
theorem s71_13 (ha : tg a = 0) : wp 71 13 [l0, l1, l2, l3] [.inr (.inl a)] (hp S D) Q ↔ wp 71 16 [l0, l1, l2, l3] [.inr (.inl (a + 3))] (hp S D) Q := w_getR dX8_takeOut_13 (t := 0) (j := 2) (c := 2) (by decide +kernel) (by decide) rfl (ln_ok (by decide) (by decide)) ha
theorem s71_16  : wp 71 16 [l0, .inl x, l2, l3] [v0] h Q ↔ wp 71 17 [l0, .inl x, l2, l3] [.inl x, v0] h Q := wp_step dX8_takeOut_16 (fun _ => rfl)
theorem s71_17 (ha : tg a = 6) : wp 71 17 [l0, l1, l2, l3] [.inl x0, .inr (.inl a)] (hp S D) Q ↔ wp 56 0 [.inr (.inl a), .inl x0, .inr (.inl 0)] [] (hp S D) (kont 71 20 [l0, l1, l2, l3] [] Q) := w_callV (y2 := 56) (vs := [.inl x0]) (st := []) dX8_takeOut_17 (by decide +kernel) rfl (by decide +kernel) (Nat.le_of_ble_eq_true rfl) (eSm_4 (by simp)) 6 rfl (by decide) ha
theorem s71_20 (h0 : a ≠ 0) : wp 71 20 [l0, l1, l2, l3] [.inr (.inl a)] h Q ↔ wp 71 21 [l0, l1, .inr (.inl a), l3] [] h Q := wp_step dX8_takeOut_20 (fun _ => (if_neg h0).trans rfl)
theorem s71_21 (h0 : a ≠ 0) : wp 71 21 [l0, l1, .inr (.inl a), l3] [] h Q ↔ wp 71 22 [l0, l1, .inr (.inl a), l3] [.inr (.inl a)] h Q := wp_step dX8_takeOut_21 (fun _ => if_neg h0)
theorem s71_22 (ha : tg a = 3) : wp 71 22 [l0, l1, l2, l3] [.inr (.inl a)] (hp S D) Q ↔ wp 27 0 [.inr (.inl a)] [] (hp S D) (kont 71 25 [l0, l1, l2, l3] [] Q) := w_callV (y2 := 27) (vs := []) (st := []) dX8_takeOut_22 (by decide +kernel) rfl (by decide +kernel) (Nat.le_of_ble_eq_true rfl) (eSm_4 (by simp)) 3 rfl (by decide) ha
theorem s71_25  : wp 71 25 [l0, l1, l2, l3] [.inl x] h Q ↔ if x = 0 then wp 71 42 [l0, l1, l2, l3] [] h Q else wp 71 28 [l0, l1, l2, l3] [] h Q := w_eq0 dX8_takeOut_25 (by decide)
theorem s71_28 (h0 : a ≠ 0) : wp 71 28 [.inr (.inl a), l1, l2, l3] [] h Q ↔ wp 71 29 [.inr (.inl a), l1, l2, l3] [.inr (.inl a)] h Q := wp_step dX8_takeOut_28 (fun _ => if_neg h0)
theorem s71_29 (ha : tg a = 7) : wp 71 29 [l0, l1, l2, l3] [.inr (.inl a)] (hp S D) Q ↔ wp 71 32 [l0, l1, l2, l3] [.inr (.inl (a + 1))] (hp S D) Q := w_getR dX8_takeOut_29 (t := 7) (j := 0) (c := 2) (by decide +kernel) (by decide) rfl (ln_ok (by decide) (by decide)) ha
theorem s71_32 (ha : tg a = 0) : wp 71 32 [l0, l1, l2, l3] [.inr (.inl a)] (hp S D) Q ↔ wp 71 35 [l0, l1, l2, l3] [.inr (.inl (a + 3))] (hp S D) Q := w_getR dX8_takeOut_32 (t := 0) (j := 2) (c := 2) (by decide +kernel) (by decide) rfl (ln_ok (by decide) (by decide)) ha
theorem s71_35  : wp 71 35 [l0, .inl x, l2, l3] [v0] h Q ↔ wp 71 36 [l0, .inl x, l2, l3] [.inl x, v0] h Q := wp_step dX8_takeOut_35 (fun _ => rfl)
theorem s71_36 (ha : tg a = 6) : wp 71 36 [l0, l1, l2, l3] [.inl x0, .inr (.inl a)] (hp S D) Q ↔ wp 57 0 [.inr (.inl a), .inl x0] [] (hp S D) (kont 71 39 [l0, l1, l2, l3] [] Q) := w_callV (y2 := 57) (vs := [.inl x0]) (st := []) dX8_takeOut_36 (by decide +kernel) rfl (by decide +kernel) (Nat.le_of_ble_eq_true rfl) (eSm_4 (by simp)) 6 rfl (by decide) ha
theorem s71_39  : wp 71 39 [l0, l1, l2, l3] [.inl x] h Q ↔ if x = 0 then wp 71 45 [l0, l1, l2, l3] [] h Q else wp 71 42 [l0, l1, l2, l3] [] h Q := w_eq0 dX8_takeOut_39 (by decide)
theorem s71_42  : wp 71 42 [l0, l1, l2, l3] [] h Q ↔ wp 71 44 [l0, l1, l2, l3] [.inl (-4)] h Q := w_const2 dX8_takeOut_42 k_m4 k8_m4
theorem s71_44  : wp 71 44 [l0, l1, l2, l3] [.inl x] h Q ↔ Q (some (.inl x)) h := w_reti dX8_takeOut_44 (e_ri (by decide +kernel))
theorem s71_45 (h0 : a ≠ 0) : wp 71 45 [.inr (.inl a), l1, l2, l3] [] h Q ↔ wp 71 46 [.inr (.inl a), l1, l2, l3] [.inr (.inl a)] h Q := wp_step dX8_takeOut_45 (fun _ => if_neg h0)
theorem s71_46 (ha : tg a = 7) : wp 71 46 [l0, l1, l2, l3] [.inr (.inl a)] (hp S D) Q ↔ wp 71 49 [l0, l1, l2, l3] [.inr (.inl (a + 62))] (hp S D) Q := w_getR dX8_takeOut_46 (t := 7) (j := 4) (c := 2) (by decide +kernel) (by decide) rfl (ln_ok (by decide) (by decide)) ha
theorem s71_49 (h0 : a ≠ 0) : wp 71 49 [.inr (.inl a), l1, l2, l3] [v0] h Q ↔ wp 71 50 [.inr (.inl a), l1, l2, l3] [.inr (.inl a), v0] h Q := wp_step dX8_takeOut_49 (fun _ => if_neg h0)
theorem s71_50 (ha : tg a = 7) : wp 71 50 [l0, l1, l2, l3] [.inr (.inl a), v0] (hp S D) Q ↔ wp 71 53 [l0, l1, l2, l3] [.inr (.inl (a + 1)), v0] (hp S D) Q := w_getR dX8_takeOut_50 (t := 7) (j := 0) (c := 2) (by decide +kernel) (by decide) rfl (ln_ok (by decide) (by decide)) ha
theorem s71_53 (ha : tg a = 2) : wp 71 53 [l0, l1, l2, l3] [.inr (.inl a0), .inr (.inl a)] (hp S D) Q ↔ wp 20 0 [.inr (.inl a), .inr (.inl a0), .inr (.inl 0)] [] (hp S D) (kont 71 56 [l0, l1, l2, l3] [] Q) := w_callV (y2 := 20) (vs := [.inr (.inl a0)]) (st := []) dX8_takeOut_53 (by decide +kernel) rfl (by decide +kernel) (Nat.le_of_ble_eq_true rfl) (eSm_4 (by simp)) 2 rfl (by decide) ha
theorem s71_56 (h0 : a ≠ 0) : wp 71 56 [l0, l1, .inr (.inl a), l3] [] h Q ↔ wp 71 57 [l0, l1, .inr (.inl a), l3] [.inr (.inl a)] h Q := wp_step dX8_takeOut_56 (fun _ => if_neg h0)
theorem s71_57 (ha : tg a = 3) : wp 71 57 [l0, l1, l2, l3] [.inr (.inl a)] (hp S D) Q ↔ wp 71 60 [l0, l1, l2, l3] [.inl (D a 3)] (hp S D) Q := w_getI dX8_takeOut_57 (t := 3) (j := 3) (c := 0) (by decide +kernel) (by decide) rfl (ln_ok (by decide) (by decide)) ha
theorem s71_60  : wp 71 60 [l0, l1, l2, l3] [.inl x] h Q ↔ wp 71 61 [l0, l1, l2, .inl x] [] h Q := wp_step dX8_takeOut_60 (fun _ => rfl)
theorem s71_61 (h0 : a ≠ 0) : wp 71 61 [l0, l1, .inr (.inl a), l3] [] h Q ↔ wp 71 62 [l0, l1, .inr (.inl a), l3] [.inr (.inl a)] h Q := wp_step dX8_takeOut_61 (fun _ => if_neg h0)
theorem s71_62 (ha : tg a = 3) : wp 71 62 [l0, l1, l2, l3] [.inr (.inl a)] (hp S D) Q ↔ wp 25 0 [.inr (.inl a)] [] (hp S D) (kont 71 65 [l0, l1, l2, l3] [] Q) := w_callV (y2 := 25) (vs := []) (st := []) dX8_takeOut_62 (by decide +kernel) rfl (by decide +kernel) (Nat.le_of_ble_eq_true rfl) (eSm_4 (by simp)) 3 rfl (by decide) ha
theorem s71_65  : wp 71 65 [l0, l1, l2, .inl x] [] h Q ↔ wp 71 66 [l0, l1, l2, .inl x] [.inl x] h Q := wp_step dX8_takeOut_65 (fun _ => rfl)
theorem s71_66  : wp 71 66 [l0, l1, l2, l3] [.inl x] h Q ↔ Q (some (.inl x)) h := w_reti dX8_takeOut_66 (e_ri (by decide +kernel))
theorem s72_0  : wp 72 0 [l0, .inl x] [] h Q ↔ wp 72 1 [l0, .inl x] [.inl x] h Q := wp_step dX8_turnTo_0 (fun _ => rfl)
theorem s72_1  : wp 72 1 [l0, l1] [.inl x0] h Q ↔ wp 94 0 [.inl x0] [] h (kont 72 4 [l0, l1] [] Q) := w_callS (y2 := 94) (kd := 0) (vs := [.inl x0]) (st := []) dX8_turnTo_1 (by decide +kernel) (by decide) rfl (by decide +kernel) (Nat.le_of_ble_eq_true rfl) (eSm_4 (by simp))
theorem s72_4  : wp 72 4 [l0, l1] [.inl x] h Q ↔ if x = 0 then wp 72 7 [l0, l1] [] h Q else wp 72 9 [l0, l1] [] h Q := w_ne0 dX8_turnTo_4 (by decide)
theorem s72_7  : wp 72 7 [l0, l1] [] h Q ↔ wp 72 8 [l0, l1] [.inl (-1)] h Q := w_const1 dX8_turnTo_7 k_m1
theorem s72_8  : wp 72 8 [l0, l1] [.inl x] h Q ↔ Q (some (.inl x)) h := w_reti dX8_turnTo_8 (e_ri (by decide +kernel))
theorem s72_9 (h0 : a ≠ 0) : wp 72 9 [.inr (.inl a), l1] [] h Q ↔ wp 72 10 [.inr (.inl a), l1] [.inr (.inl a)] h Q := wp_step dX8_turnTo_9 (fun _ => if_neg h0)
theorem s72_10 (ha : tg a = 7) : wp 72 10 [l0, l1] [.inr (.inl a)] (hp S D) Q ↔ wp 72 13 [l0, l1] [.inr (.inl (a + 1))] (hp S D) Q := w_getR dX8_turnTo_10 (t := 7) (j := 0) (c := 2) (by decide +kernel) (by decide) rfl (ln_ok (by decide) (by decide)) ha
theorem s72_13 (ha : tg a = 0) : wp 72 13 [l0, l1] [.inr (.inl a)] (hp S D) Q ↔ wp 72 16 [l0, l1] [.inr (.inl (a + 3))] (hp S D) Q := w_getR dX8_turnTo_13 (t := 0) (j := 2) (c := 2) (by decide +kernel) (by decide) rfl (ln_ok (by decide) (by decide)) ha
theorem s72_16 (ha : tg a = 6) : wp 72 16 [l0, l1] [.inr (.inl a)] (hp S D) Q ↔ wp 58 0 [.inr (.inl a)] [] (hp S D) (kont 72 19 [l0, l1] [] Q) := w_callV (y2 := 58) (vs := []) (st := []) dX8_turnTo_16 (by decide +kernel) rfl (by decide +kernel) (Nat.le_of_ble_eq_true rfl) (eSm_4 (by simp)) 6 rfl (by decide) ha
theorem s72_19  : wp 72 19 [l0, l1] [.inl x] h Q ↔ if x = 0 then wp 72 25 [l0, l1] [] h Q else wp 72 22 [l0, l1] [] h Q := w_eq0 dX8_turnTo_19 (by decide)
theorem s72_22  : wp 72 22 [l0, l1] [] h Q ↔ wp 72 24 [l0, l1] [.inl (-4)] h Q := w_const2 dX8_turnTo_22 k_m4 k8_m4
theorem s72_24  : wp 72 24 [l0, l1] [.inl x] h Q ↔ Q (some (.inl x)) h := w_reti dX8_turnTo_24 (e_ri (by decide +kernel))
theorem s72_25 (h0 : a ≠ 0) : wp 72 25 [.inr (.inl a), l1] [] h Q ↔ wp 72 26 [.inr (.inl a), l1] [.inr (.inl a)] h Q := wp_step dX8_turnTo_25 (fun _ => if_neg h0)
theorem s72_26 (ha : tg a = 7) : wp 72 26 [l0, l1] [.inr (.inl a)] (hp S D) Q ↔ wp 72 29 [l0, l1] [.inr (.inl (a + 1))] (hp S D) Q := w_getR dX8_turnTo_26 (t := 7) (j := 0) (c := 2) (by decide +kernel) (by decide) rfl (ln_ok (by decide) (by decide)) ha
theorem s72_29 (ha : tg a = 0) : wp 72 29 [l0, l1] [.inr (.inl a)] (hp S D) Q ↔ wp 72 32 [l0, l1] [.inr (.inl (a + 3))] (hp S D) Q := w_getR dX8_turnTo_29 (t := 0) (j := 2) (c := 2) (by decide +kernel) (by decide) rfl (ln_ok (by decide) (by decide)) ha
theorem s72_32 (ha : tg a = 6) : wp 72 32 [l0, l1] [.inr (.inl a)] (hp S D) Q ↔ wp 72 35 [l0, l1] [.inl (D a 2)] (hp S D) Q := w_getI dX8_turnTo_32 (t := 6) (j := 2) (c := 0) (by decide +kernel) (by decide) rfl (ln_ok (by decide) (by decide)) ha
theorem s72_35  : wp 72 35 [l0, .inl x] [v0] h Q ↔ wp 72 36 [l0, .inl x] [.inl x, v0] h Q := wp_step dX8_turnTo_35 (fun _ => rfl)
theorem s72_36  : wp 72 36 [l0, l1] [.inl z, .inl x] h Q ↔ if x = z then wp 72 39 [l0, l1] [] h Q else wp 72 42 [l0, l1] [] h Q := w_cne dX8_turnTo_36 (by decide)
theorem s72_39  : wp 72 39 [l0, l1] [] h Q ↔ wp 72 41 [l0, l1] [.inl (-5)] h Q := w_const2 dX8_turnTo_39 k_m5 k8_m5
theorem s72_41  : wp 72 41 [l0, l1] [.inl x] h Q ↔ Q (some (.inl x)) h := w_reti dX8_turnTo_41 (e_ri (by decide +kernel))
theorem s72_42 (h0 : a ≠ 0) : wp 72 42 [.inr (.inl a), l1] [] h Q ↔ wp 72 43 [.inr (.inl a), l1] [.inr (.inl a)] h Q := wp_step dX8_turnTo_42 (fun _ => if_neg h0)
theorem s72_43 (ha : tg a = 7) : wp 72 43 [l0, l1] [.inr (.inl a)] (hp S D) Q ↔ wp 72 46 [l0, l1] [.inr (.inl (a + 62))] (hp S D) Q := w_getR dX8_turnTo_43 (t := 7) (j := 4) (c := 2) (by decide +kernel) (by decide) rfl (ln_ok (by decide) (by decide)) ha
theorem s72_46 (h0 : a ≠ 0) : wp 72 46 [.inr (.inl a), l1] [v0] h Q ↔ wp 72 47 [.inr (.inl a), l1] [.inr (.inl a), v0] h Q := wp_step dX8_turnTo_46 (fun _ => if_neg h0)
theorem s72_47 (ha : tg a = 7) : wp 72 47 [l0, l1] [.inr (.inl a), v0] (hp S D) Q ↔ wp 72 50 [l0, l1] [.inr (.inl (a + 1)), v0] (hp S D) Q := w_getR dX8_turnTo_47 (t := 7) (j := 0) (c := 2) (by decide +kernel) (by decide) rfl (ln_ok (by decide) (by decide)) ha
theorem s72_50 (ha : tg a = 2) : wp 72 50 [l0, l1] [.inr (.inl a0), .inr (.inl a)] (hp S D) Q ↔ wp 20 0 [.inr (.inl a), .inr (.inl a0), .inr (.inl 0)] [] (hp S D) (kont 72 53 [l0, l1] [] Q) := w_callV (y2 := 20) (vs := [.inr (.inl a0)]) (st := []) dX8_turnTo_50 (by decide +kernel) rfl (by decide +kernel) (Nat.le_of_ble_eq_true rfl) (eSm_4 (by simp)) 2 rfl (by decide) ha
theorem s72_53 (h0 : a ≠ 0) : wp 72 53 [.inr (.inl a), l1] [] h Q ↔ wp 72 54 [.inr (.inl a), l1] [.inr (.inl a)] h Q := wp_step dX8_turnTo_53 (fun _ => if_neg h0)
theorem s72_54 (ha : tg a = 7) : wp 72 54 [l0, l1] [.inr (.inl a)] (hp S D) Q ↔ wp 72 57 [l0, l1] [.inr (.inl (a + 1))] (hp S D) Q := w_getR dX8_turnTo_54 (t := 7) (j := 0) (c := 2) (by decide +kernel) (by decide) rfl (ln_ok (by decide) (by decide)) ha
theorem s72_57 (ha : tg a = 0) : wp 72 57 [l0, l1] [.inr (.inl a)] (hp S D) Q ↔ wp 72 60 [l0, l1] [.inr (.inl (a + 3))] (hp S D) Q := w_getR dX8_turnTo_57 (t := 0) (j := 2) (c := 2) (by decide +kernel) (by decide) rfl (ln_ok (by decide) (by decide)) ha
theorem s72_60  : wp 72 60 [l0, .inl x] [v0] h Q ↔ wp 72 61 [l0, .inl x] [.inl x, v0] h Q := wp_step dX8_turnTo_60 (fun _ => rfl)
theorem s72_61 (h0 : a ≠ 0) : wp 72 61 [.inr (.inl a), l1] [v0, v1] h Q ↔ wp 72 62 [.inr (.inl a), l1] [.inr (.inl a), v0, v1] h Q := wp_step dX8_turnTo_61 (fun _ => if_neg h0)
theorem s72_62 (ha : tg a = 7) : wp 72 62 [l0, l1] [.inr (.inl a), v0, v1] (hp S D) Q ↔ wp 72 65 [l0, l1] [.inr (.inl (a + 1)), v0, v1] (hp S D) Q := w_getR dX8_turnTo_62 (t := 7) (j := 0) (c := 2) (by decide +kernel) (by decide) rfl (ln_ok (by decide) (by decide)) ha
theorem s72_65 (ha : tg a = 0) : wp 72 65 [l0, l1] [.inr (.inl a), v0, v1] (hp S D) Q ↔ wp 72 68 [l0, l1] [.inr (.inl (a + 1)), v0, v1] (hp S D) Q := w_getR dX8_turnTo_65 (t := 0) (j := 0) (c := 2) (by decide +kernel) (by decide) rfl (ln_ok (by decide) (by decide)) ha
theorem s72_68  : wp 72 68 [l0, l1] [v0, v1, v2] h Q ↔ wp 72 69 [l0, l1] [.inl 2, v0, v1, v2] h Q := w_const1 dX8_turnTo_68 k_2
theorem s72_69  : wp 72 69 [l0, l1] [.inl x1, .inr (.inl a0), v0, v1] h Q ↔ wp 51 0 [.inr (.inl a0), .inl x1] [] h (kont 72 72 [l0, l1] [v0, v1] Q) := w_callS (y2 := 51) (kd := 0) (vs := [.inr (.inl a0), .inl x1]) (st := [v0, v1]) dX8_turnTo_69 (by decide +kernel) (by decide) rfl (by decide +kernel) (Nat.le_of_ble_eq_true rfl) (eSm_4 (by simp))
theorem s72_72 (ha : tg a = 6) : wp 72 72 [l0, l1] [.inl x1, .inl x0, .inr (.inl a)] (hp S D) Q ↔ wp 59 0 [.inr (.inl a), .inl x0, .inl x1] [] (hp S D) (kont 72 75 [l0, l1] [] Q) := w_callV (y2 := 59) (vs := [.inl x0, .inl x1]) (st := []) dX8_turnTo_72 (by decide +kernel) rfl (by decide +kernel) (Nat.le_of_ble_eq_true rfl) (eSm_4 (by simp)) 6 rfl (by decide) ha
theorem s72_75 (h0 : a ≠ 0) : wp 72 75 [.inr (.inl a), l1] [] h Q ↔ wp 72 76 [.inr (.inl a), l1] [.inr (.inl a)] h Q := wp_step dX8_turnTo_75 (fun _ => if_neg h0)
theorem s72_76 (ha : tg a = 7) : wp 72 76 [l0, l1] [.inr (.inl a)] (hp S D) Q ↔ wp 72 79 [l0, l1] [.inr (.inl (a + 1))] (hp S D) Q := w_getR dX8_turnTo_76 (t := 7) (j := 0) (c := 2) (by decide +kernel) (by decide) rfl (ln_ok (by decide) (by decide)) ha
theorem s72_79 (ha : tg a = 0) : wp 72 79 [l0, l1] [.inr (.inl a)] (hp S D) Q ↔ wp 72 82 [l0, l1] [.inr (.inl (a + 3))] (hp S D) Q := w_getR dX8_turnTo_79 (t := 0) (j := 2) (c := 2) (by decide +kernel) (by decide) rfl (ln_ok (by decide) (by decide)) ha
theorem s72_82 (ha : tg a = 6) : wp 72 82 [l0, l1] [.inr (.inl a)] (hp S D) Q ↔ wp 72 85 [l0, l1] [.inl (D a 4)] (hp S D) Q := w_getI dX8_turnTo_82 (t := 6) (j := 4) (c := 0) (by decide +kernel) (by decide) rfl (ln_ok (by decide) (by decide)) ha
theorem s72_85  : wp 72 85 [l0, l1] [.inl x] h Q ↔ Q (some (.inl x)) h := w_reti dX8_turnTo_85 (e_ri (by decide +kernel))
theorem s73_0  : wp 73 0 [l0, .inl x, l2, l3] [] h Q ↔ wp 73 1 [l0, .inl x, l2, l3] [.inl x] h Q := wp_step dX8_stock_0 (fun _ => rfl)
theorem s73_1  : wp 73 1 [l0, l1, l2, l3] [.inl x0] h Q ↔ wp 95 0 [.inl x0] [] h (kont 73 4 [l0, l1, l2, l3] [] Q) := w_callS (y2 := 95) (kd := 0) (vs := [.inl x0]) (st := []) dX8_stock_1 (by decide +kernel) (by decide) rfl (by decide +kernel) (Nat.le_of_ble_eq_true rfl) (eSm_4 (by simp))
theorem s73_4  : wp 73 4 [l0, l1, l2, l3] [.inl x] h Q ↔ if x = 0 then wp 73 14 [l0, l1, l2, l3] [] h Q else wp 73 7 [l0, l1, l2, l3] [] h Q := w_eq0 dX8_stock_4 (by decide)
theorem s73_7  : wp 73 7 [l0, l1, .inl x, l3] [] h Q ↔ wp 73 8 [l0, l1, .inl x, l3] [.inl x] h Q := wp_step dX8_stock_7 (fun _ => rfl)
theorem s73_8  : wp 73 8 [l0, l1, l2, l3] [.inl x0] h Q ↔ wp 96 0 [.inl x0] [] h (kont 73 11 [l0, l1, l2, l3] [] Q) := w_callS (y2 := 96) (kd := 0) (vs := [.inl x0]) (st := []) dX8_stock_8 (by decide +kernel) (by decide) rfl (by decide +kernel) (Nat.le_of_ble_eq_true rfl) (eSm_4 (by simp))
theorem s73_11  : wp 73 11 [l0, l1, l2, l3] [.inl x] h Q ↔ if x = 0 then wp 73 14 [l0, l1, l2, l3] [] h Q else wp 73 17 [l0, l1, l2, l3] [] h Q := w_ne0 dX8_stock_11 (by decide)
theorem s73_14  : wp 73 14 [l0, l1, l2, l3] [] h Q ↔ wp 73 16 [l0, l1, l2, l3] [.inl (-2)] h Q := w_const2 dX8_stock_14 k_m2 k8_m2
theorem s73_16  : wp 73 16 [l0, l1, l2, l3] [.inl x] h Q ↔ Q (some (.inl x)) h := w_reti dX8_stock_16 (e_ri (by decide +kernel))
theorem s73_17 (h0 : a ≠ 0) : wp 73 17 [.inr (.inl a), l1, l2, l3] [] h Q ↔ wp 73 18 [.inr (.inl a), l1, l2, l3] [.inr (.inl a)] h Q := wp_step dX8_stock_17 (fun _ => if_neg h0)
theorem s73_18 (ha : tg a = 7) : wp 73 18 [l0, l1, l2, l3] [.inr (.inl a)] (hp S D) Q ↔ wp 73 21 [l0, l1, l2, l3] [.inr (.inl (a + 1))] (hp S D) Q := w_getR dX8_stock_18 (t := 7) (j := 0) (c := 2) (by decide +kernel) (by decide) rfl (ln_ok (by decide) (by decide)) ha
theorem s73_21 (ha : tg a = 0) : wp 73 21 [l0, l1, l2, l3] [.inr (.inl a)] (hp S D) Q ↔ wp 73 24 [l0, l1, l2, l3] [.inr (.inl (a + 2))] (hp S D) Q := w_getR dX8_stock_21 (t := 0) (j := 1) (c := 2) (by decide +kernel) (by decide) rfl (ln_ok (by decide) (by decide)) ha
theorem s73_24  : wp 73 24 [l0, .inl x, l2, l3] [v0] h Q ↔ wp 73 25 [l0, .inl x, l2, l3] [.inl x, v0] h Q := wp_step dX8_stock_24 (fun _ => rfl)
theorem s73_25  : wp 73 25 [l0, l1, l2, l3] [.inl x1, .inr (.inl a0)] h Q ↔ wp 51 0 [.inr (.inl a0), .inl x1] [] h (kont 73 28 [l0, l1, l2, l3] [] Q) := w_callS (y2 := 51) (kd := 0) (vs := [.inr (.inl a0), .inl x1]) (st := []) dX8_stock_25 (by decide +kernel) (by decide) rfl (by decide +kernel) (Nat.le_of_ble_eq_true rfl) (eSm_4 (by simp))
theorem s73_28  : wp 73 28 [l0, l1, .inl x, l3] [v0] h Q ↔ wp 73 29 [l0, l1, .inl x, l3] [.inl x, v0] h Q := wp_step dX8_stock_28 (fun _ => rfl)
theorem s73_29  : wp 73 29 [l0, l1, l2, l3] [.inl z, .inl x] h Q ↔ wp 73 30 [l0, l1, l2, l3] [.inl (w32 (x + z))] h Q := wp_step dX8_stock_29 (fun _ => rfl)
theorem s73_30  : wp 73 30 [l0, l1, l2, l3] [.inl x] h Q ↔ wp 73 31 [l0, l1, l2, .inl x] [] h Q := wp_step dX8_stock_30 (fun _ => rfl)
theorem s73_31  : wp 73 31 [l0, l1, l2, .inl x] [] h Q ↔ wp 73 32 [l0, l1, l2, .inl x] [.inl x] h Q := wp_step dX8_stock_31 (fun _ => rfl)
theorem s73_32  : wp 73 32 [l0, l1, l2, l3] [v0] h Q ↔ wp 73 34 [l0, l1, l2, l3] [.inl 99, v0] h Q := w_const2 dX8_stock_32 k_99 k8_99
theorem s73_34  : wp 73 34 [l0, l1, l2, l3] [.inl z, .inl x] h Q ↔ if z < x then wp 73 37 [l0, l1, l2, l3] [] h Q else wp 73 40 [l0, l1, l2, l3] [] h Q := w_cle dX8_stock_34 (by decide)
theorem s73_37  : wp 73 37 [l0, l1, l2, l3] [] h Q ↔ wp 73 39 [l0, l1, l2, l3] [.inl (-3)] h Q := w_const2 dX8_stock_37 k_m3 k8_m3
theorem s73_39  : wp 73 39 [l0, l1, l2, l3] [.inl x] h Q ↔ Q (some (.inl x)) h := w_reti dX8_stock_39 (e_ri (by decide +kernel))
theorem s73_40 (h0 : a ≠ 0) : wp 73 40 [.inr (.inl a), l1, l2, l3] [] h Q ↔ wp 73 41 [.inr (.inl a), l1, l2, l3] [.inr (.inl a)] h Q := wp_step dX8_stock_40 (fun _ => if_neg h0)
theorem s73_41 (ha : tg a = 7) : wp 73 41 [l0, l1, l2, l3] [.inr (.inl a)] (hp S D) Q ↔ wp 73 44 [l0, l1, l2, l3] [.inr (.inl (a + 62))] (hp S D) Q := w_getR dX8_stock_41 (t := 7) (j := 4) (c := 2) (by decide +kernel) (by decide) rfl (ln_ok (by decide) (by decide)) ha
theorem s73_44 (h0 : a ≠ 0) : wp 73 44 [.inr (.inl a), l1, l2, l3] [v0] h Q ↔ wp 73 45 [.inr (.inl a), l1, l2, l3] [.inr (.inl a), v0] h Q := wp_step dX8_stock_44 (fun _ => if_neg h0)
theorem s73_45 (ha : tg a = 7) : wp 73 45 [l0, l1, l2, l3] [.inr (.inl a), v0] (hp S D) Q ↔ wp 73 48 [l0, l1, l2, l3] [.inr (.inl (a + 1)), v0] (hp S D) Q := w_getR dX8_stock_45 (t := 7) (j := 0) (c := 2) (by decide +kernel) (by decide) rfl (ln_ok (by decide) (by decide)) ha
theorem s73_48 (ha : tg a = 2) : wp 73 48 [l0, l1, l2, l3] [.inr (.inl a0), .inr (.inl a)] (hp S D) Q ↔ wp 20 0 [.inr (.inl a), .inr (.inl a0), .inr (.inl 0)] [] (hp S D) (kont 73 51 [l0, l1, l2, l3] [] Q) := w_callV (y2 := 20) (vs := [.inr (.inl a0)]) (st := []) dX8_stock_48 (by decide +kernel) rfl (by decide +kernel) (Nat.le_of_ble_eq_true rfl) (eSm_4 (by simp)) 2 rfl (by decide) ha
theorem s73_51 (h0 : a ≠ 0) : wp 73 51 [.inr (.inl a), l1, l2, l3] [] h Q ↔ wp 73 52 [.inr (.inl a), l1, l2, l3] [.inr (.inl a)] h Q := wp_step dX8_stock_51 (fun _ => if_neg h0)
theorem s73_52 (ha : tg a = 7) : wp 73 52 [l0, l1, l2, l3] [.inr (.inl a)] (hp S D) Q ↔ wp 73 55 [l0, l1, l2, l3] [.inr (.inl (a + 1))] (hp S D) Q := w_getR dX8_stock_52 (t := 7) (j := 0) (c := 2) (by decide +kernel) (by decide) rfl (ln_ok (by decide) (by decide)) ha
theorem s73_55 (ha : tg a = 0) : wp 73 55 [l0, l1, l2, l3] [.inr (.inl a)] (hp S D) Q ↔ wp 73 58 [l0, l1, l2, l3] [.inr (.inl (a + 2))] (hp S D) Q := w_getR dX8_stock_55 (t := 0) (j := 1) (c := 2) (by decide +kernel) (by decide) rfl (ln_ok (by decide) (by decide)) ha
theorem s73_58  : wp 73 58 [l0, .inl x, l2, l3] [v0] h Q ↔ wp 73 59 [l0, .inl x, l2, l3] [.inl x, v0] h Q := wp_step dX8_stock_58 (fun _ => rfl)
theorem s73_59  : wp 73 59 [l0, l1, l2, .inl x] [v0, v1] h Q ↔ wp 73 60 [l0, l1, l2, .inl x] [.inl x, v0, v1] h Q := wp_step dX8_stock_59 (fun _ => rfl)
theorem s73_60  : wp 73 60 [l0, l1, l2, l3] [.inl x2, .inl x1, .inr (.inl a0)] h Q ↔ wp 52 0 [.inr (.inl a0), .inl x1, .inl x2] [] h (kont 73 63 [l0, l1, l2, l3] [] Q) := w_callS (y2 := 52) (kd := 0) (vs := [.inr (.inl a0), .inl x1, .inl x2]) (st := []) dX8_stock_60 (by decide +kernel) (by decide) rfl (by decide +kernel) (Nat.le_of_ble_eq_true rfl) (eSm_4 (by simp))
theorem s73_63  : wp 73 63 [l0, l1, l2, .inl x] [] h Q ↔ wp 73 64 [l0, l1, l2, .inl x] [.inl x] h Q := wp_step dX8_stock_63 (fun _ => rfl)
theorem s73_64  : wp 73 64 [l0, l1, l2, l3] [.inl x] h Q ↔ Q (some (.inl x)) h := w_reti dX8_stock_64 (e_ri (by decide +kernel))
theorem s74_0  : wp 74 0 [l0, .inl x, l2, l3] [] h Q ↔ wp 74 1 [l0, .inl x, l2, l3] [.inl x] h Q := wp_step dX8_boat_0 (fun _ => rfl)
theorem s74_1  : wp 74 1 [l0, l1, l2, l3] [v0] h Q ↔ wp 74 2 [l0, l1, l2, l3] [.inl 0, v0] h Q := w_const1 dX8_boat_1 k_0
theorem s74_2  : wp 74 2 [l0, l1, l2, l3] [v0, v1] h Q ↔ wp 74 5 [l0, l1, l2, l3] [.inl 9999, v0, v1] h Q := w_const3 dX8_boat_2 k_9999 k16_9999
theorem s74_5  : wp 74 5 [l0, l1, l2, l3] [.inl x2, .inl x1, .inl x0] h Q ↔ wp 91 0 [.inl x0, .inl x1, .inl x2] [] h (kont 74 8 [l0, l1, l2, l3] [] Q) := w_callS (y2 := 91) (kd := 0) (vs := [.inl x0, .inl x1, .inl x2]) (st := []) dX8_boat_5 (by decide +kernel) (by decide) rfl (by decide +kernel) (Nat.le_of_ble_eq_true rfl) (eSm_4 (by simp))
theorem s74_8  : wp 74 8 [l0, l1, l2, l3] [.inl x] h Q ↔ if x = 0 then wp 74 25 [l0, l1, l2, l3] [] h Q else wp 74 11 [l0, l1, l2, l3] [] h Q := w_eq0 dX8_boat_8 (by decide)
theorem s74_11  : wp 74 11 [l0, l1, .inl x, l3] [] h Q ↔ wp 74 12 [l0, l1, .inl x, l3] [.inl x] h Q := wp_step dX8_boat_11 (fun _ => rfl)
theorem s74_12  : wp 74 12 [l0, l1, l2, l3] [.inl x0] h Q ↔ wp 95 0 [.inl x0] [] h (kont 74 15 [l0, l1, l2, l3] [] Q) := w_callS (y2 := 95) (kd := 0) (vs := [.inl x0]) (st := []) dX8_boat_12 (by decide +kernel) (by decide) rfl (by decide +kernel) (Nat.le_of_ble_eq_true rfl) (eSm_4 (by simp))
theorem s74_15  : wp 74 15 [l0, l1, l2, l3] [.inl x] h Q ↔ if x = 0 then wp 74 25 [l0, l1, l2, l3] [] h Q else wp 74 18 [l0, l1, l2, l3] [] h Q := w_eq0 dX8_boat_15 (by decide)
theorem s74_18  : wp 74 18 [l0, l1, l2, .inl x] [] h Q ↔ wp 74 19 [l0, l1, l2, .inl x] [.inl x] h Q := wp_step dX8_boat_18 (fun _ => rfl)
theorem s74_19  : wp 74 19 [l0, l1, l2, l3] [.inl x0] h Q ↔ wp 96 0 [.inl x0] [] h (kont 74 22 [l0, l1, l2, l3] [] Q) := w_callS (y2 := 96) (kd := 0) (vs := [.inl x0]) (st := []) dX8_boat_19 (by decide +kernel) (by decide) rfl (by decide +kernel) (Nat.le_of_ble_eq_true rfl) (eSm_4 (by simp))
theorem s74_22  : wp 74 22 [l0, l1, l2, l3] [.inl x] h Q ↔ if x = 0 then wp 74 25 [l0, l1, l2, l3] [] h Q else wp 74 28 [l0, l1, l2, l3] [] h Q := w_ne0 dX8_boat_22 (by decide)
theorem s74_25  : wp 74 25 [l0, l1, l2, l3] [] h Q ↔ wp 74 27 [l0, l1, l2, l3] [.inl (-2)] h Q := w_const2 dX8_boat_25 k_m2 k8_m2
theorem s74_27  : wp 74 27 [l0, l1, l2, l3] [.inl x] h Q ↔ Q (some (.inl x)) h := w_reti dX8_boat_27 (e_ri (by decide +kernel))
theorem s74_28 (h0 : a ≠ 0) : wp 74 28 [.inr (.inl a), l1, l2, l3] [] h Q ↔ wp 74 29 [.inr (.inl a), l1, l2, l3] [.inr (.inl a)] h Q := wp_step dX8_boat_28 (fun _ => if_neg h0)
theorem s74_29 (ha : tg a = 7) : wp 74 29 [l0, l1, l2, l3] [.inr (.inl a)] (hp S D) Q ↔ wp 74 32 [l0, l1, l2, l3] [.inr (.inl (a + 1))] (hp S D) Q := w_getR dX8_boat_29 (t := 7) (j := 0) (c := 2) (by decide +kernel) (by decide) rfl (ln_ok (by decide) (by decide)) ha
theorem s74_32 (ha : tg a = 0) : wp 74 32 [l0, l1, l2, l3] [.inr (.inl a)] (hp S D) Q ↔ wp 74 35 [l0, l1, l2, l3] [.inr (.inl (a + 12))] (hp S D) Q := w_getR dX8_boat_32 (t := 0) (j := 3) (c := 2) (by decide +kernel) (by decide) rfl (ln_ok (by decide) (by decide)) ha
theorem s74_35  : wp 74 35 [l0, .inl x, l2, l3] [v0] h Q ↔ wp 74 36 [l0, .inl x, l2, l3] [.inl x, v0] h Q := wp_step dX8_boat_35 (fun _ => rfl)
theorem s74_36 (ha : tg a = 4) : wp 74 36 [l0, l1, l2, l3] [.inl x0, .inr (.inl a)] (hp S D) Q ↔ wp 39 0 [.inr (.inl a), .inl x0] [] (hp S D) (kont 74 39 [l0, l1, l2, l3] [] Q) := w_callV (y2 := 39) (vs := [.inl x0]) (st := []) dX8_boat_36 (by decide +kernel) rfl (by decide +kernel) (Nat.le_of_ble_eq_true rfl) (eSm_4 (by simp)) 4 rfl (by decide) ha
theorem s74_39  : wp 74 39 [l0, l1, l2, l3] [.inl x] h Q ↔ if x = 0 then wp 74 42 [l0, l1, l2, l3] [] h Q else wp 74 45 [l0, l1, l2, l3] [] h Q := w_ne0 dX8_boat_39 (by decide)
theorem s74_42  : wp 74 42 [l0, l1, l2, l3] [] h Q ↔ wp 74 44 [l0, l1, l2, l3] [.inl (-3)] h Q := w_const2 dX8_boat_42 k_m3 k8_m3
theorem s74_44  : wp 74 44 [l0, l1, l2, l3] [.inl x] h Q ↔ Q (some (.inl x)) h := w_reti dX8_boat_44 (e_ri (by decide +kernel))
theorem s74_45 (h0 : a ≠ 0) : wp 74 45 [.inr (.inl a), l1, l2, l3] [] h Q ↔ wp 74 46 [.inr (.inl a), l1, l2, l3] [.inr (.inl a)] h Q := wp_step dX8_boat_45 (fun _ => if_neg h0)
theorem s74_46 (ha : tg a = 7) : wp 74 46 [l0, l1, l2, l3] [.inr (.inl a)] (hp S D) Q ↔ wp 74 49 [l0, l1, l2, l3] [.inr (.inl (a + 62))] (hp S D) Q := w_getR dX8_boat_46 (t := 7) (j := 4) (c := 2) (by decide +kernel) (by decide) rfl (ln_ok (by decide) (by decide)) ha
theorem s74_49 (h0 : a ≠ 0) : wp 74 49 [.inr (.inl a), l1, l2, l3] [v0] h Q ↔ wp 74 50 [.inr (.inl a), l1, l2, l3] [.inr (.inl a), v0] h Q := wp_step dX8_boat_49 (fun _ => if_neg h0)
theorem s74_50 (ha : tg a = 7) : wp 74 50 [l0, l1, l2, l3] [.inr (.inl a), v0] (hp S D) Q ↔ wp 74 53 [l0, l1, l2, l3] [.inr (.inl (a + 1)), v0] (hp S D) Q := w_getR dX8_boat_50 (t := 7) (j := 0) (c := 2) (by decide +kernel) (by decide) rfl (ln_ok (by decide) (by decide)) ha
theorem s74_53 (ha : tg a = 2) : wp 74 53 [l0, l1, l2, l3] [.inr (.inl a0), .inr (.inl a)] (hp S D) Q ↔ wp 20 0 [.inr (.inl a), .inr (.inl a0), .inr (.inl 0)] [] (hp S D) (kont 74 56 [l0, l1, l2, l3] [] Q) := w_callV (y2 := 20) (vs := [.inr (.inl a0)]) (st := []) dX8_boat_53 (by decide +kernel) rfl (by decide +kernel) (Nat.le_of_ble_eq_true rfl) (eSm_4 (by simp)) 2 rfl (by decide) ha
theorem s74_56 (h0 : a ≠ 0) : wp 74 56 [.inr (.inl a), l1, l2, l3] [] h Q ↔ wp 74 57 [.inr (.inl a), l1, l2, l3] [.inr (.inl a)] h Q := wp_step dX8_boat_56 (fun _ => if_neg h0)
theorem s74_57 (ha : tg a = 7) : wp 74 57 [l0, l1, l2, l3] [.inr (.inl a)] (hp S D) Q ↔ wp 74 60 [l0, l1, l2, l3] [.inr (.inl (a + 1))] (hp S D) Q := w_getR dX8_boat_57 (t := 7) (j := 0) (c := 2) (by decide +kernel) (by decide) rfl (ln_ok (by decide) (by decide)) ha
theorem s74_60 (ha : tg a = 0) : wp 74 60 [l0, l1, l2, l3] [.inr (.inl a)] (hp S D) Q ↔ wp 74 63 [l0, l1, l2, l3] [.inr (.inl (a + 12))] (hp S D) Q := w_getR dX8_boat_60 (t := 0) (j := 3) (c := 2) (by decide +kernel) (by decide) rfl (ln_ok (by decide) (by decide)) ha
theorem s74_63  : wp 74 63 [l0, .inl x, l2, l3] [v0] h Q ↔ wp 74 64 [l0, .inl x, l2, l3] [.inl x, v0] h Q := wp_step dX8_boat_63 (fun _ => rfl)
theorem s74_64  : wp 74 64 [l0, l1, .inl x, l3] [v0, v1] h Q ↔ wp 74 65 [l0, l1, .inl x, l3] [.inl x, v0, v1] h Q := wp_step dX8_boat_64 (fun _ => rfl)
theorem s74_65  : wp 74 65 [l0, l1, l2, .inl x] [v0, v1, v2] h Q ↔ wp 74 66 [l0, l1, l2, .inl x] [.inl x, v0, v1, v2] h Q := wp_step dX8_boat_65 (fun _ => rfl)
theorem s74_66 (ha : tg a = 4) : wp 74 66 [l0, l1, l2, l3] [.inl x2, .inl x1, .inl x0, .inr (.inl a)] (hp S D) Q ↔ wp 40 0 [.inr (.inl a), .inl x0, .inl x1, .inl x2, .inr (.inl 0)] [] (hp S D) (kont 74 69 [l0, l1, l2, l3] [] Q) := w_callV (y2 := 40) (vs := [.inl x0, .inl x1, .inl x2]) (st := []) dX8_boat_66 (by decide +kernel) rfl (by decide +kernel) (Nat.le_of_ble_eq_true rfl) (eSm_4 (by simp)) 4 rfl (by decide) ha
theorem s74_69 (h0 : a ≠ 0) : wp 74 69 [.inr (.inl a), l1, l2, l3] [] h Q ↔ wp 74 70 [.inr (.inl a), l1, l2, l3] [.inr (.inl a)] h Q := wp_step dX8_boat_69 (fun _ => if_neg h0)
theorem s74_70 (ha : tg a = 7) : wp 74 70 [l0, l1, l2, l3] [.inr (.inl a)] (hp S D) Q ↔ wp 74 73 [l0, l1, l2, l3] [.inr (.inl (a + 1))] (hp S D) Q := w_getR dX8_boat_70 (t := 7) (j := 0) (c := 2) (by decide +kernel) (by decide) rfl (ln_ok (by decide) (by decide)) ha
theorem s74_73 (ha : tg a = 0) : wp 74 73 [l0, l1, l2, l3] [.inr (.inl a)] (hp S D) Q ↔ wp 74 76 [l0, l1, l2, l3] [.inr (.inl (a + 12))] (hp S D) Q := w_getR dX8_boat_73 (t := 0) (j := 3) (c := 2) (by decide +kernel) (by decide) rfl (ln_ok (by decide) (by decide)) ha
theorem s74_76 (ha : tg a = 4) : wp 74 76 [l0, l1, l2, l3] [.inr (.inl a)] (hp S D) Q ↔ wp 74 79 [l0, l1, l2, l3] [.inl (D a 3)] (hp S D) Q := w_getI dX8_boat_76 (t := 4) (j := 3) (c := 0) (by decide +kernel) (by decide) rfl (ln_ok (by decide) (by decide)) ha
theorem s74_79  : wp 74 79 [l0, l1, l2, l3] [.inl x] h Q ↔ Q (some (.inl x)) h := w_reti dX8_boat_79 (e_ri (by decide +kernel))
theorem s75_0 (h0 : a ≠ 0) : wp 75 0 [.inr (.inl a), l1] [] h Q ↔ wp 75 1 [.inr (.inl a), l1] [.inr (.inl a)] h Q := wp_step dX8_readPlan_0 (fun _ => if_neg h0)
theorem s75_1 (ha : tg a = 7) : wp 75 1 [l0, l1] [.inr (.inl a)] (hp S D) Q ↔ wp 75 4 [l0, l1] [.inr (.inl (a + 144))] (hp S D) Q := w_getR dX8_readPlan_1 (t := 7) (j := 5) (c := 2) (by decide +kernel) (by decide) rfl (ln_ok (by decide) (by decide)) ha
theorem s75_4 (h0 : a ≠ 0) : wp 75 4 [.inr (.inl a), l1] [v0] h Q ↔ wp 75 5 [.inr (.inl a), l1] [.inr (.inl a), v0] h Q := wp_step dX8_readPlan_4 (fun _ => if_neg h0)
theorem s75_5 (ha : tg a = 7) : wp 75 5 [l0, l1] [.inr (.inl a), v0] (hp S D) Q ↔ wp 75 8 [l0, l1] [.inr (.inl (a + 146)), v0] (hp S D) Q := w_getR dX8_readPlan_5 (t := 7) (j := 6) (c := 2) (by decide +kernel) (by decide) rfl (ln_ok (by decide) (by decide)) ha
theorem s75_8 (ha : tg a = 5) : wp 75 8 [l0, l1] [.inr (.inl a0), .inr (.inl a)] (hp S D) Q ↔ wp 45 0 [.inr (.inl a), .inr (.inl a0), .inr (.inl 0)] [] (hp S D) (kont 75 11 [l0, l1] [] Q) := w_callV (y2 := 45) (vs := [.inr (.inl a0)]) (st := []) dX8_readPlan_8 (by decide +kernel) rfl (by decide +kernel) (Nat.le_of_ble_eq_true rfl) (eSm_4 (by simp)) 5 rfl (by decide) ha
theorem s75_11  : wp 75 11 [l0, l1] [.inl x] h Q ↔ wp 75 12 [l0, .inl x] [] h Q := wp_step dX8_readPlan_11 (fun _ => rfl)
theorem s75_12  : wp 75 12 [l0, .inl x] [] h Q ↔ wp 75 13 [l0, .inl x] [.inl x] h Q := wp_step dX8_readPlan_12 (fun _ => rfl)
theorem s75_13  : wp 75 13 [l0, l1] [v0] h Q ↔ wp 75 14 [l0, l1] [.inl (-1), v0] h Q := w_const1 dX8_readPlan_13 k_m1
theorem s75_14  : wp 75 14 [l0, l1] [.inl z, .inl x] h Q ↔ if x = z then wp 75 22 [l0, l1] [] h Q else wp 75 17 [l0, l1] [] h Q := w_ceq dX8_readPlan_14 (by decide)
theorem s75_17  : wp 75 17 [l0, l1] [] h Q ↔ wp 75 19 [l0, l1] [.inl (-100)] h Q := w_const2 dX8_readPlan_17 k_m100 k8_m100
theorem s75_19  : wp 75 19 [l0, .inl x] [v0] h Q ↔ wp 75 20 [l0, .inl x] [.inl x, v0] h Q := wp_step dX8_readPlan_19 (fun _ => rfl)
theorem s75_20  : wp 75 20 [l0, l1] [.inl z, .inl x] h Q ↔ wp 75 21 [l0, l1] [.inl (w32 (x - z))] h Q := wp_step dX8_readPlan_20 (fun _ => rfl)
theorem s75_21  : wp 75 21 [l0, l1] [.inl x] h Q ↔ Q (some (.inl x)) h := w_reti dX8_readPlan_21 (e_ri (by decide +kernel))
theorem s75_22 (h0 : a ≠ 0) : wp 75 22 [.inr (.inl a), l1] [] h Q ↔ wp 75 23 [.inr (.inl a), l1] [.inr (.inl a)] h Q := wp_step dX8_readPlan_22 (fun _ => if_neg h0)
theorem s75_23 (ha : tg a = 7) : wp 75 23 [l0, l1] [.inr (.inl a)] (hp S D) Q ↔ wp 75 26 [l0, l1] [.inr (.inl (a + 144))] (hp S D) Q := w_getR dX8_readPlan_23 (t := 7) (j := 5) (c := 2) (by decide +kernel) (by decide) rfl (ln_ok (by decide) (by decide)) ha
theorem s75_26 (ha : tg a = 5) : wp 75 26 [l0, l1] [.inr (.inl a)] (hp S D) Q ↔ wp 75 29 [l0, l1] [.inl (D a 2)] (hp S D) Q := w_getI dX8_readPlan_26 (t := 5) (j := 2) (c := 1) (by decide +kernel) (by decide) rfl (ln_ok (by decide) (by decide)) ha
theorem s75_29  : wp 75 29 [l0, l1] [.inl x] h Q ↔ if x = 0 then wp 75 35 [l0, l1] [] h Q else wp 75 32 [l0, l1] [] h Q := w_eq0 dX8_readPlan_29 (by decide)
theorem s75_32  : wp 75 32 [l0, l1] [] h Q ↔ wp 75 34 [l0, l1] [.inl (-3)] h Q := w_const2 dX8_readPlan_32 k_m3 k8_m3
theorem s75_34  : wp 75 34 [l0, l1] [.inl x] h Q ↔ Q (some (.inl x)) h := w_reti dX8_readPlan_34 (e_ri (by decide +kernel))
theorem s75_35 (h0 : a ≠ 0) : wp 75 35 [.inr (.inl a), l1] [] h Q ↔ wp 75 36 [.inr (.inl a), l1] [.inr (.inl a)] h Q := wp_step dX8_readPlan_35 (fun _ => if_neg h0)
theorem s75_36 (ha : tg a = 7) : wp 75 36 [l0, l1] [.inr (.inl a)] (hp S D) Q ↔ wp 75 39 [l0, l1] [.inr (.inl (a + 62))] (hp S D) Q := w_getR dX8_readPlan_36 (t := 7) (j := 4) (c := 2) (by decide +kernel) (by decide) rfl (ln_ok (by decide) (by decide)) ha
theorem s75_39 (h0 : a ≠ 0) : wp 75 39 [.inr (.inl a), l1] [v0] h Q ↔ wp 75 40 [.inr (.inl a), l1] [.inr (.inl a), v0] h Q := wp_step dX8_readPlan_39 (fun _ => if_neg h0)
theorem s75_40 (ha : tg a = 7) : wp 75 40 [l0, l1] [.inr (.inl a), v0] (hp S D) Q ↔ wp 75 43 [l0, l1] [.inr (.inl (a + 1)), v0] (hp S D) Q := w_getR dX8_readPlan_40 (t := 7) (j := 0) (c := 2) (by decide +kernel) (by decide) rfl (ln_ok (by decide) (by decide)) ha
theorem s75_43 (ha : tg a = 2) : wp 75 43 [l0, l1] [.inr (.inl a0), .inr (.inl a)] (hp S D) Q ↔ wp 20 0 [.inr (.inl a), .inr (.inl a0), .inr (.inl 0)] [] (hp S D) (kont 75 46 [l0, l1] [] Q) := w_callV (y2 := 20) (vs := [.inr (.inl a0)]) (st := []) dX8_readPlan_43 (by decide +kernel) rfl (by decide +kernel) (Nat.le_of_ble_eq_true rfl) (eSm_4 (by simp)) 2 rfl (by decide) ha
theorem s75_46 (h0 : a ≠ 0) : wp 75 46 [.inr (.inl a), l1] [] h Q ↔ wp 75 47 [.inr (.inl a), l1] [.inr (.inl a)] h Q := wp_step dX8_readPlan_46 (fun _ => if_neg h0)
theorem s75_47 (ha : tg a = 7) : wp 75 47 [l0, l1] [.inr (.inl a)] (hp S D) Q ↔ wp 75 50 [l0, l1] [.inr (.inl (a + 1))] (hp S D) Q := w_getR dX8_readPlan_47 (t := 7) (j := 0) (c := 2) (by decide +kernel) (by decide) rfl (ln_ok (by decide) (by decide)) ha
theorem s75_50 (ha : tg a = 0) : wp 75 50 [l0, l1] [.inr (.inl a)] (hp S D) Q ↔ wp 75 53 [l0, l1] [.inr (.inl (a + 12))] (hp S D) Q := w_getR dX8_readPlan_50 (t := 0) (j := 3) (c := 2) (by decide +kernel) (by decide) rfl (ln_ok (by decide) (by decide)) ha
theorem s75_53 (h0 : a ≠ 0) : wp 75 53 [.inr (.inl a), l1] [v0] h Q ↔ wp 75 54 [.inr (.inl a), l1] [.inr (.inl a), v0] h Q := wp_step dX8_readPlan_53 (fun _ => if_neg h0)
theorem s75_54 (ha : tg a = 7) : wp 75 54 [l0, l1] [.inr (.inl a), v0] (hp S D) Q ↔ wp 75 57 [l0, l1] [.inr (.inl (a + 146)), v0] (hp S D) Q := w_getR dX8_readPlan_54 (t := 7) (j := 6) (c := 2) (by decide +kernel) (by decide) rfl (ln_ok (by decide) (by decide)) ha
theorem s75_57 (ha : tg a = 4) : wp 75 57 [l0, l1] [.inr (.inl a0), .inr (.inl a)] (hp S D) Q ↔ wp 36 0 [.inr (.inl a), .inr (.inl a0)] [] (hp S D) (kont 75 60 [l0, l1] [] Q) := w_callV (y2 := 36) (vs := [.inr (.inl a0)]) (st := []) dX8_readPlan_57 (by decide +kernel) rfl (by decide +kernel) (Nat.le_of_ble_eq_true rfl) (eSm_4 (by simp)) 4 rfl (by decide) ha
theorem s75_60 (h0 : a ≠ 0) : wp 75 60 [.inr (.inl a), l1] [] h Q ↔ wp 75 61 [.inr (.inl a), l1] [.inr (.inl a)] h Q := wp_step dX8_readPlan_60 (fun _ => if_neg h0)
theorem s75_61 (ha : tg a = 7) : wp 75 61 [l0, l1] [.inr (.inl a)] (hp S D) Q ↔ wp 75 64 [l0, l1] [.inr (.inl (a + 1))] (hp S D) Q := w_getR dX8_readPlan_61 (t := 7) (j := 0) (c := 2) (by decide +kernel) (by decide) rfl (ln_ok (by decide) (by decide)) ha
theorem s75_64 (ha : tg a = 0) : wp 75 64 [l0, l1] [.inr (.inl a)] (hp S D) Q ↔ wp 75 67 [l0, l1] [.inr (.inl (a + 12))] (hp S D) Q := w_getR dX8_readPlan_64 (t := 0) (j := 3) (c := 2) (by decide +kernel) (by decide) rfl (ln_ok (by decide) (by decide)) ha
theorem s75_67 (ha : tg a = 4) : wp 75 67 [l0, l1] [.inr (.inl a)] (hp S D) Q ↔ wp 75 70 [l0, l1] [.inl (D a 3)] (hp S D) Q := w_getI dX8_readPlan_67 (t := 4) (j := 3) (c := 0) (by decide +kernel) (by decide) rfl (ln_ok (by decide) (by decide)) ha
theorem s75_70  : wp 75 70 [l0, l1] [.inl x] h Q ↔ Q (some (.inl x)) h := w_reti dX8_readPlan_70 (e_ri (by decide +kernel))
theorem s76_0  : wp 76 0 [l0, .inl x, l2, l3] [] h Q ↔ wp 76 1 [l0, .inl x, l2, l3] [.inl x] h Q := wp_step dX8_pass_0 (fun _ => rfl)
theorem s76_1  : wp 76 1 [l0, l1, l2, l3] [v0] h Q ↔ wp 76 2 [l0, l1, l2, l3] [.inl 1, v0] h Q := w_const1 dX8_pass_1 k_1
theorem s76_2  : wp 76 2 [l0, l1, l2, l3] [v0, v1] h Q ↔ wp 76 5 [l0, l1, l2, l3] [.inl 200, v0, v1] h Q := w_const3 dX8_pass_2 k_200 k16_200
theorem s76_5  : wp 76 5 [l0, l1, l2, l3] [.inl x2, .inl x1, .inl x0] h Q ↔ wp 91 0 [.inl x0, .inl x1, .inl x2] [] h (kont 76 8 [l0, l1, l2, l3] [] Q) := w_callS (y2 := 91) (kd := 0) (vs := [.inl x0, .inl x1, .inl x2]) (st := []) dX8_pass_5 (by decide +kernel) (by decide) rfl (by decide +kernel) (Nat.le_of_ble_eq_true rfl) (eSm_4 (by simp))
theorem s76_8  : wp 76 8 [l0, l1, l2, l3] [.inl x] h Q ↔ if x = 0 then wp 76 11 [l0, l1, l2, l3] [] h Q else wp 76 14 [l0, l1, l2, l3] [] h Q := w_ne0 dX8_pass_8 (by decide)
theorem s76_11  : wp 76 11 [l0, l1, l2, l3] [] h Q ↔ wp 76 13 [l0, l1, l2, l3] [.inl (-2)] h Q := w_const2 dX8_pass_11 k_m2 k8_m2
theorem s76_13  : wp 76 13 [l0, l1, l2, l3] [.inl x] h Q ↔ Q (some (.inl x)) h := w_reti dX8_pass_13 (e_ri (by decide +kernel))
theorem s76_14  : wp 76 14 [l0, .inl x, l2, l3] [] h Q ↔ wp 76 15 [l0, .inl x, l2, l3] [.inl x] h Q := wp_step dX8_pass_14 (fun _ => rfl)
theorem s76_15  : wp 76 15 [l0, l1, l2, l3] [v0] h Q ↔ wp 76 17 [l0, l1, l2, l3] [.inl 99999, v0] h Q := w_ldc dX8_pass_15 (by decide +kernel)
theorem s76_17 (h0 : a ≠ 0) : wp 76 17 [.inr (.inl a), l1, l2, l3] [v0, v1] h Q ↔ wp 76 18 [.inr (.inl a), l1, l2, l3] [.inr (.inl a), v0, v1] h Q := wp_step dX8_pass_17 (fun _ => if_neg h0)
theorem s76_18 (ha : tg a = 7) : wp 76 18 [l0, l1, l2, l3] [.inr (.inl a), v0, v1] (hp S D) Q ↔ wp 76 21 [l0, l1, l2, l3] [.inr (.inl (a + 1)), v0, v1] (hp S D) Q := w_getR dX8_pass_18 (t := 7) (j := 0) (c := 2) (by decide +kernel) (by decide) rfl (ln_ok (by decide) (by decide)) ha
theorem s76_21 (ha : tg a = 0) : wp 76 21 [l0, l1, l2, l3] [.inr (.inl a), v0, v1] (hp S D) Q ↔ wp 76 24 [l0, l1, l2, l3] [.inl (D a 5), v0, v1] (hp S D) Q := w_getI dX8_pass_21 (t := 0) (j := 5) (c := 0) (by decide +kernel) (by decide) rfl (ln_ok (by decide) (by decide)) ha
theorem s76_24  : wp 76 24 [l0, l1, l2, l3] [.inl z, .inl x, v0] h Q ↔ wp 76 25 [l0, l1, l2, l3] [.inl (w32 (x - z)), v0] h Q := wp_step dX8_pass_24 (fun _ => rfl)
theorem s76_25  : wp 76 25 [l0, l1, l2, l3] [.inl z, .inl x] h Q ↔ if z < x then wp 76 28 [l0, l1, l2, l3] [] h Q else wp 76 31 [l0, l1, l2, l3] [] h Q := w_cle dX8_pass_25 (by decide)
theorem s76_28  : wp 76 28 [l0, l1, l2, l3] [] h Q ↔ wp 76 30 [l0, l1, l2, l3] [.inl (-3)] h Q := w_const2 dX8_pass_28 k_m3 k8_m3
theorem s76_30  : wp 76 30 [l0, l1, l2, l3] [.inl x] h Q ↔ Q (some (.inl x)) h := w_reti dX8_pass_30 (e_ri (by decide +kernel))
theorem s76_31 (h0 : a ≠ 0) : wp 76 31 [.inr (.inl a), l1, l2, l3] [] h Q ↔ wp 76 32 [.inr (.inl a), l1, l2, l3] [.inr (.inl a)] h Q := wp_step dX8_pass_31 (fun _ => if_neg h0)
theorem s76_32 (ha : tg a = 7) : wp 76 32 [l0, l1, l2, l3] [.inr (.inl a)] (hp S D) Q ↔ wp 76 35 [l0, l1, l2, l3] [.inr (.inl (a + 62))] (hp S D) Q := w_getR dX8_pass_32 (t := 7) (j := 4) (c := 2) (by decide +kernel) (by decide) rfl (ln_ok (by decide) (by decide)) ha
theorem s76_35 (h0 : a ≠ 0) : wp 76 35 [.inr (.inl a), l1, l2, l3] [v0] h Q ↔ wp 76 36 [.inr (.inl a), l1, l2, l3] [.inr (.inl a), v0] h Q := wp_step dX8_pass_35 (fun _ => if_neg h0)
theorem s76_36 (ha : tg a = 7) : wp 76 36 [l0, l1, l2, l3] [.inr (.inl a), v0] (hp S D) Q ↔ wp 76 39 [l0, l1, l2, l3] [.inr (.inl (a + 1)), v0] (hp S D) Q := w_getR dX8_pass_36 (t := 7) (j := 0) (c := 2) (by decide +kernel) (by decide) rfl (ln_ok (by decide) (by decide)) ha
theorem s76_39 (ha : tg a = 2) : wp 76 39 [l0, l1, l2, l3] [.inr (.inl a0), .inr (.inl a)] (hp S D) Q ↔ wp 20 0 [.inr (.inl a), .inr (.inl a0), .inr (.inl 0)] [] (hp S D) (kont 76 42 [l0, l1, l2, l3] [] Q) := w_callV (y2 := 20) (vs := [.inr (.inl a0)]) (st := []) dX8_pass_39 (by decide +kernel) rfl (by decide +kernel) (Nat.le_of_ble_eq_true rfl) (eSm_4 (by simp)) 2 rfl (by decide) ha
theorem s76_42 (h0 : a ≠ 0) : wp 76 42 [.inr (.inl a), l1, l2, l3] [] h Q ↔ wp 76 43 [.inr (.inl a), l1, l2, l3] [.inr (.inl a)] h Q := wp_step dX8_pass_42 (fun _ => if_neg h0)
theorem s76_43 (ha : tg a = 7) : wp 76 43 [l0, l1, l2, l3] [.inr (.inl a)] (hp S D) Q ↔ wp 76 46 [l0, l1, l2, l3] [.inr (.inl (a + 1))] (hp S D) Q := w_getR dX8_pass_43 (t := 7) (j := 0) (c := 2) (by decide +kernel) (by decide) rfl (ln_ok (by decide) (by decide)) ha
theorem s76_46 (ha : tg a = 0) : wp 76 46 [l0, l1, l2, l3] [.inr (.inl a)] (hp S D) Q ↔ wp 76 49 [l0, l1, l2, l3] [.inl (D a 8)] (hp S D) Q := w_getI dX8_pass_46 (t := 0) (j := 8) (c := 0) (by decide +kernel) (by decide) rfl (ln_ok (by decide) (by decide)) ha
theorem s76_49  : wp 76 49 [l0, l1, l2, l3] [.inl x] h Q ↔ wp 76 50 [l0, l1, .inl x, l3] [] h Q := wp_step dX8_pass_49 (fun _ => rfl)
theorem s76_50  : wp 76 50 [l0, l1, l2, l3] [] h Q ↔ wp 76 51 [l0, l1, l2, l3] [.inl 0] h Q := w_const1 dX8_pass_50 k_0
theorem s76_51  : wp 76 51 [l0, l1, l2, l3] [.inl x] h Q ↔ wp 76 52 [l0, l1, l2, .inl x] [] h Q := wp_step dX8_pass_51 (fun _ => rfl)
theorem s76_52  : wp 76 52 [l0, l1, l2, .inl x] [] h Q ↔ wp 76 53 [l0, l1, l2, .inl x] [.inl x] h Q := wp_step dX8_pass_52 (fun _ => rfl)
theorem s76_53  : wp 76 53 [l0, .inl x, l2, l3] [v0] h Q ↔ wp 76 54 [l0, .inl x, l2, l3] [.inl x, v0] h Q := wp_step dX8_pass_53 (fun _ => rfl)
theorem s76_54  : wp 76 54 [l0, l1, l2, l3] [.inl z, .inl x] h Q ↔ if x < z then wp 76 57 [l0, l1, l2, l3] [] h Q else wp 76 72 [l0, l1, l2, l3] [] h Q := w_cge dX8_pass_54 (by decide)
theorem s76_57 (h0 : a ≠ 0) : wp 76 57 [.inr (.inl a), l1, l2, l3] [] h Q ↔ wp 76 58 [.inr (.inl a), l1, l2, l3] [.inr (.inl a)] h Q := wp_step dX8_pass_57 (fun _ => if_neg h0)
theorem s76_58 (ha : tg a = 7) : wp 76 58 [l0, l1, l2, l3] [.inr (.inl a)] (hp S D) Q ↔ wp 76 61 [l0, l1, l2, l3] [.inr (.inl (a + 1))] (hp S D) Q := w_getR dX8_pass_58 (t := 7) (j := 0) (c := 2) (by decide +kernel) (by decide) rfl (ln_ok (by decide) (by decide)) ha
theorem s76_61  : wp 76 61 [l0, l1, l2, l3] [v0] h Q ↔ wp 76 62 [l0, l1, l2, l3] [.inl 1, v0] h Q := w_const1 dX8_pass_61 k_1
theorem s76_62 (ha : tg a = 0) : wp 76 62 [l0, l1, l2, l3] [.inl x0, .inr (.inl a)] (hp S D) Q ↔ wp 4 0 [.inr (.inl a), .inl x0, .inr (.inl 0), .inr (.inl 0)] [] (hp S D) (kont 76 65 [l0, l1, l2, l3] [] Q) := w_callV (y2 := 4) (vs := [.inl x0]) (st := []) dX8_pass_62 (by decide +kernel) rfl (by decide +kernel) (Nat.le_of_ble_eq_true rfl) (eSm_4 (by simp)) 0 rfl (by decide) ha
theorem s76_65  : wp 76 65 [l0, l1, l2, l3] [.inl x0] h Q ↔ wp 76 66 [l0, l1, l2, l3] [] h Q := wp_step dX8_pass_65 (fun _ => rfl)
theorem s76_66  : wp 76 66 [l0, l1, l2, .inl x] [] h Q ↔ wp 76 69 [l0, l1, l2, .inl (w32 (x + 1))] [] h Q := wp_step dX8_pass_66 (fun _ => rfl)
theorem s76_69  : wp 76 69 [l0, l1, l2, l3] [] h Q ↔ wp 76 52 [l0, l1, l2, l3] [] h Q := w_goto dX8_pass_69 (by decide)
theorem s76_72 (h0 : a ≠ 0) : wp 76 72 [.inr (.inl a), l1, l2, l3] [] h Q ↔ wp 76 73 [.inr (.inl a), l1, l2, l3] [.inr (.inl a)] h Q := wp_step dX8_pass_72 (fun _ => if_neg h0)
theorem s76_73 (ha : tg a = 7) : wp 76 73 [l0, l1, l2, l3] [.inr (.inl a)] (hp S D) Q ↔ wp 76 76 [l0, l1, l2, l3] [.inr (.inl (a + 1))] (hp S D) Q := w_getR dX8_pass_73 (t := 7) (j := 0) (c := 2) (by decide +kernel) (by decide) rfl (ln_ok (by decide) (by decide)) ha
theorem s76_76 (ha : tg a = 0) : wp 76 76 [l0, l1, l2, l3] [.inr (.inl a)] (hp S D) Q ↔ wp 76 79 [l0, l1, l2, l3] [.inl (D a 8)] (hp S D) Q := w_getI dX8_pass_76 (t := 0) (j := 8) (c := 0) (by decide +kernel) (by decide) rfl (ln_ok (by decide) (by decide)) ha
theorem s76_79  : wp 76 79 [l0, l1, .inl x, l3] [v0] h Q ↔ wp 76 80 [l0, l1, .inl x, l3] [.inl x, v0] h Q := wp_step dX8_pass_79 (fun _ => rfl)
theorem s76_80  : wp 76 80 [l0, l1, l2, l3] [.inl z, .inl x] h Q ↔ wp 76 81 [l0, l1, l2, l3] [.inl (w32 (x - z))] h Q := wp_step dX8_pass_80 (fun _ => rfl)
theorem s76_81  : wp 76 81 [l0, l1, l2, l3] [.inl x] h Q ↔ Q (some (.inl x)) h := w_reti dX8_pass_81 (e_ri (by decide +kernel))
theorem s77_0 (h0 : a ≠ 0) : wp 77 0 [.inr (.inl a), l1] [] h Q ↔ wp 77 1 [.inr (.inl a), l1] [.inr (.inl a)] h Q := wp_step dX8_type_0 (fun _ => if_neg h0)
theorem s77_1 (ha : tg a = 7) : wp 77 1 [l0, l1] [.inr (.inl a)] (hp S D) Q ↔ wp 77 4 [l0, l1] [.inr (.inl (a + 144))] (hp S D) Q := w_getR dX8_type_1 (t := 7) (j := 5) (c := 2) (by decide +kernel) (by decide) rfl (ln_ok (by decide) (by decide)) ha
theorem s77_4  : wp 77 4 [l0, .inl x] [v0] h Q ↔ wp 77 5 [l0, .inl x] [.inl x, v0] h Q := wp_step dX8_type_4 (fun _ => rfl)
theorem s77_5 (ha : tg a = 5) : wp 77 5 [l0, l1] [.inl x0, .inr (.inl a)] (hp S D) Q ↔ wp 44 0 [.inr (.inl a), .inl x0] [] (hp S D) (kont 77 8 [l0, l1] [] Q) := w_callV (y2 := 44) (vs := [.inl x0]) (st := []) dX8_type_5 (by decide +kernel) rfl (by decide +kernel) (Nat.le_of_ble_eq_true rfl) (eSm_4 (by simp)) 5 rfl (by decide) ha
theorem s77_8  : wp 77 8 [l0, l1] [.inl x] h Q ↔ if x = 0 then wp 77 11 [l0, l1] [] h Q else wp 77 14 [l0, l1] [] h Q := w_ne0 dX8_type_8 (by decide)
theorem s77_11  : wp 77 11 [l0, l1] [] h Q ↔ wp 77 13 [l0, l1] [.inl (-3)] h Q := w_const2 dX8_type_11 k_m3 k8_m3
theorem s77_13  : wp 77 13 [l0, l1] [.inl x] h Q ↔ Q (some (.inl x)) h := w_reti dX8_type_13 (e_ri (by decide +kernel))
theorem s77_14 (h0 : a ≠ 0) : wp 77 14 [.inr (.inl a), l1] [] h Q ↔ wp 77 15 [.inr (.inl a), l1] [.inr (.inl a)] h Q := wp_step dX8_type_14 (fun _ => if_neg h0)
theorem s77_15 (ha : tg a = 7) : wp 77 15 [l0, l1] [.inr (.inl a)] (hp S D) Q ↔ wp 77 18 [l0, l1] [.inr (.inl (a + 144))] (hp S D) Q := w_getR dX8_type_15 (t := 7) (j := 5) (c := 2) (by decide +kernel) (by decide) rfl (ln_ok (by decide) (by decide)) ha
theorem s77_18 (ha : tg a = 5) : wp 77 18 [l0, l1] [.inr (.inl a)] (hp S D) Q ↔ wp 77 21 [l0, l1] [.inl (D a 1)] (hp S D) Q := w_getI dX8_type_18 (t := 5) (j := 1) (c := 0) (by decide +kernel) (by decide) rfl (ln_ok (by decide) (by decide)) ha
theorem s77_21  : wp 77 21 [l0, l1] [.inl x] h Q ↔ Q (some (.inl x)) h := w_reti dX8_type_21 (e_ri (by decide +kernel))
theorem s78_0 (h0 : a ≠ 0) : wp 78 0 [.inr (.inl a), l1] [] h Q ↔ wp 78 1 [.inr (.inl a), l1] [.inr (.inl a)] h Q := wp_step dX8_clearText_0 (fun _ => if_neg h0)
theorem s78_1 (ha : tg a = 7) : wp 78 1 [l0, l1] [.inr (.inl a)] (hp S D) Q ↔ wp 78 4 [l0, l1] [.inr (.inl (a + 144))] (hp S D) Q := w_getR dX8_clearText_1 (t := 7) (j := 5) (c := 2) (by decide +kernel) (by decide) rfl (ln_ok (by decide) (by decide)) ha
theorem s78_4 (ha : tg a = 5) : wp 78 4 [l0, l1] [.inr (.inl a)] (hp S D) Q ↔ wp 78 7 [l0, l1] [.inl (D a 1)] (hp S D) Q := w_getI dX8_clearText_4 (t := 5) (j := 1) (c := 0) (by decide +kernel) (by decide) rfl (ln_ok (by decide) (by decide)) ha
theorem s78_7  : wp 78 7 [l0, l1] [.inl x] h Q ↔ wp 78 8 [l0, .inl x] [] h Q := wp_step dX8_clearText_7 (fun _ => rfl)
theorem s78_8 (h0 : a ≠ 0) : wp 78 8 [.inr (.inl a), l1] [] h Q ↔ wp 78 9 [.inr (.inl a), l1] [.inr (.inl a)] h Q := wp_step dX8_clearText_8 (fun _ => if_neg h0)
theorem s78_9 (ha : tg a = 7) : wp 78 9 [l0, l1] [.inr (.inl a)] (hp S D) Q ↔ wp 78 12 [l0, l1] [.inr (.inl (a + 144))] (hp S D) Q := w_getR dX8_clearText_9 (t := 7) (j := 5) (c := 2) (by decide +kernel) (by decide) rfl (ln_ok (by decide) (by decide)) ha
theorem s78_12  : wp 78 12 [l0, l1] [v0] h Q ↔ wp 78 13 [l0, l1] [.inl 0, v0] h Q := w_const1 dX8_clearText_12 k_0
theorem s78_13 (ha : tg a = 5) : wp 78 13 [l0, l1] [.inl z, .inr (.inl a)] (hp S D) Q ↔ wp 78 16 [l0, l1] [] (hp S (up D a 1 z)) Q := w_put dX8_clearText_13 (t := 5) (j := 1) (c := 0) (by decide +kernel) (by decide +kernel) (by decide) rfl (ln_ok (by decide) (by decide)) (Or.inl rfl) ha
theorem s78_16  : wp 78 16 [l0, .inl x] [] h Q ↔ wp 78 17 [l0, .inl x] [.inl x] h Q := wp_step dX8_clearText_16 (fun _ => rfl)
theorem s78_17  : wp 78 17 [l0, l1] [.inl x] h Q ↔ Q (some (.inl x)) h := w_reti dX8_clearText_17 (e_ri (by decide +kernel))
theorem s79_0 (h0 : a ≠ 0) : wp 79 0 [.inr (.inl a)] [] h Q ↔ wp 79 1 [.inr (.inl a)] [.inr (.inl a)] h Q := wp_step dX8_undo_0 (fun _ => if_neg h0)
theorem s79_1 (ha : tg a = 7) : wp 79 1 [l0] [.inr (.inl a)] (hp S D) Q ↔ wp 79 4 [l0] [.inr (.inl (a + 62))] (hp S D) Q := w_getR dX8_undo_1 (t := 7) (j := 4) (c := 2) (by decide +kernel) (by decide) rfl (ln_ok (by decide) (by decide)) ha
theorem s79_4 (ha : tg a = 2) : wp 79 4 [l0] [.inr (.inl a)] (hp S D) Q ↔ wp 79 7 [l0] [.inl (D a 1)] (hp S D) Q := w_getI dX8_undo_4 (t := 2) (j := 1) (c := 0) (by decide +kernel) (by decide) rfl (ln_ok (by decide) (by decide)) ha
theorem s79_7  : wp 79 7 [l0] [.inl x] h Q ↔ if x = 0 then wp 79 10 [l0] [] h Q else wp 79 13 [l0] [] h Q := w_ne0 dX8_undo_7 (by decide)
theorem s79_10  : wp 79 10 [l0] [] h Q ↔ wp 79 12 [l0] [.inl (-5)] h Q := w_const2 dX8_undo_10 k_m5 k8_m5
theorem s79_12  : wp 79 12 [l0] [.inl x] h Q ↔ Q (some (.inl x)) h := w_reti dX8_undo_12 (e_ri (by decide +kernel))
theorem s79_13 (h0 : a ≠ 0) : wp 79 13 [.inr (.inl a)] [] h Q ↔ wp 79 14 [.inr (.inl a)] [.inr (.inl a)] h Q := wp_step dX8_undo_13 (fun _ => if_neg h0)
theorem s79_14 (ha : tg a = 7) : wp 79 14 [l0] [.inr (.inl a)] (hp S D) Q ↔ wp 79 17 [l0] [.inr (.inl (a + 62))] (hp S D) Q := w_getR dX8_undo_14 (t := 7) (j := 4) (c := 2) (by decide +kernel) (by decide) rfl (ln_ok (by decide) (by decide)) ha
theorem s79_17 (h0 : a ≠ 0) : wp 79 17 [.inr (.inl a)] [v0] h Q ↔ wp 79 18 [.inr (.inl a)] [.inr (.inl a), v0] h Q := wp_step dX8_undo_17 (fun _ => if_neg h0)
theorem s79_18 (ha : tg a = 7) : wp 79 18 [l0] [.inr (.inl a), v0] (hp S D) Q ↔ wp 79 21 [l0] [.inr (.inl (a + 1)), v0] (hp S D) Q := w_getR dX8_undo_18 (t := 7) (j := 0) (c := 2) (by decide +kernel) (by decide) rfl (ln_ok (by decide) (by decide)) ha
theorem s79_21 (ha : tg a = 2) : wp 79 21 [l0] [.inr (.inl a0), .inr (.inl a)] (hp S D) Q ↔ wp 21 0 [.inr (.inl a), .inr (.inl a0), .inr (.inl 0)] [] (hp S D) (kont 79 24 [l0] [] Q) := w_callV (y2 := 21) (vs := [.inr (.inl a0)]) (st := []) dX8_undo_21 (by decide +kernel) rfl (by decide +kernel) (Nat.le_of_ble_eq_true rfl) (eSm_4 (by simp)) 2 rfl (by decide) ha
theorem s79_24 (h0 : a ≠ 0) : wp 79 24 [.inr (.inl a)] [] h Q ↔ wp 79 25 [.inr (.inl a)] [.inr (.inl a)] h Q := wp_step dX8_undo_24 (fun _ => if_neg h0)
theorem s79_25 (ha : tg a = 7) : wp 79 25 [l0] [.inr (.inl a)] (hp S D) Q ↔ wp 79 28 [l0] [.inr (.inl (a + 62))] (hp S D) Q := w_getR dX8_undo_25 (t := 7) (j := 4) (c := 2) (by decide +kernel) (by decide) rfl (ln_ok (by decide) (by decide)) ha
theorem s79_28 (ha : tg a = 2) : wp 79 28 [l0] [.inr (.inl a)] (hp S D) Q ↔ wp 79 31 [l0] [.inl (D a 1)] (hp S D) Q := w_getI dX8_undo_28 (t := 2) (j := 1) (c := 0) (by decide +kernel) (by decide) rfl (ln_ok (by decide) (by decide)) ha
theorem s79_31  : wp 79 31 [l0] [.inl x] h Q ↔ Q (some (.inl x)) h := w_reti dX8_undo_31 (e_ri (by decide +kernel))
theorem s80_0 (h0 : a ≠ 0) : wp 80 0 [.inr (.inl a)] [] h Q ↔ wp 80 1 [.inr (.inl a)] [.inr (.inl a)] h Q := wp_step dX8_keep_0 (fun _ => if_neg h0)
theorem s80_1 (ha : tg a = 7) : wp 80 1 [l0] [.inr (.inl a)] (hp S D) Q ↔ wp 80 4 [l0] [.inr (.inl (a + 21))] (hp S D) Q := w_getR dX8_keep_1 (t := 7) (j := 1) (c := 2) (by decide +kernel) (by decide) rfl (ln_ok (by decide) (by decide)) ha
theorem s80_4 (h0 : a ≠ 0) : wp 80 4 [.inr (.inl a)] [v0] h Q ↔ wp 80 5 [.inr (.inl a)] [.inr (.inl a), v0] h Q := wp_step dX8_keep_4 (fun _ => if_neg h0)
theorem s80_5 (ha : tg a = 7) : wp 80 5 [l0] [.inr (.inl a), v0] (hp S D) Q ↔ wp 80 8 [l0] [.inr (.inl (a + 1)), v0] (hp S D) Q := w_getR dX8_keep_5 (t := 7) (j := 0) (c := 2) (by decide +kernel) (by decide) rfl (ln_ok (by decide) (by decide)) ha
theorem s80_8 (ha : tg a = 0) : wp 80 8 [l0] [.inr (.inl a0), .inr (.inl a)] (hp S D) Q ↔ wp 1 0 [.inr (.inl a), .inr (.inl a0)] [] (hp S D) (kont 80 11 [l0] [] Q) := w_callV (y2 := 1) (vs := [.inr (.inl a0)]) (st := []) dX8_keep_8 (by decide +kernel) rfl (by decide +kernel) (Nat.le_of_ble_eq_true rfl) (eSm_4 (by simp)) 0 rfl (by decide) ha
theorem s80_11 (h0 : a ≠ 0) : wp 80 11 [.inr (.inl a)] [] h Q ↔ wp 80 12 [.inr (.inl a)] [.inr (.inl a)] h Q := wp_step dX8_keep_11 (fun _ => if_neg h0)
theorem s80_12  : wp 80 12 [l0] [v0] h Q ↔ wp 80 13 [l0] [.inl 1, v0] h Q := w_const1 dX8_keep_12 k_1
theorem s80_13 (ha : tg a = 7) (hv : z = 0 ∨ z = 1) : wp 80 13 [l0] [.inl z, .inr (.inl a)] (hp S D) Q ↔ wp 80 16 [l0] [] (hp S (up D a 7 z)) Q := w_put dX8_keep_13 (t := 7) (j := 7) (c := 1) (by decide +kernel) (by decide +kernel) (by decide) rfl (ln_ok (by decide) (by decide)) (Or.inr ⟨rfl, hv⟩) ha
theorem s80_16 (h0 : a ≠ 0) : wp 80 16 [.inr (.inl a)] [] h Q ↔ wp 80 17 [.inr (.inl a)] [.inr (.inl a)] h Q := wp_step dX8_keep_16 (fun _ => if_neg h0)
theorem s80_17 (ha : tg a = 7) : wp 80 17 [l0] [.inr (.inl a)] (hp S D) Q ↔ wp 80 20 [l0] [.inr (.inl (a + 1))] (hp S D) Q := w_getR dX8_keep_17 (t := 7) (j := 0) (c := 2) (by decide +kernel) (by decide) rfl (ln_ok (by decide) (by decide)) ha
theorem s80_20 (ha : tg a = 0) : wp 80 20 [l0] [.inr (.inl a)] (hp S D) Q ↔ wp 80 23 [l0] [.inl (D a 5)] (hp S D) Q := w_getI dX8_keep_20 (t := 0) (j := 5) (c := 0) (by decide +kernel) (by decide) rfl (ln_ok (by decide) (by decide)) ha
theorem s80_23  : wp 80 23 [l0] [.inl x] h Q ↔ Q (some (.inl x)) h := w_reti dX8_keep_23 (e_ri (by decide +kernel))
theorem s81_0 (h0 : a ≠ 0) : wp 81 0 [.inr (.inl a)] [] h Q ↔ wp 81 1 [.inr (.inl a)] [.inr (.inl a)] h Q := wp_step dX8_restore_0 (fun _ => if_neg h0)
theorem s81_1 (ha : tg a = 7) : wp 81 1 [l0] [.inr (.inl a)] (hp S D) Q ↔ wp 81 4 [l0] [.inl (D a 7)] (hp S D) Q := w_getI dX8_restore_1 (t := 7) (j := 7) (c := 1) (by decide +kernel) (by decide) rfl (ln_ok (by decide) (by decide)) ha
theorem s81_4  : wp 81 4 [l0] [.inl x] h Q ↔ if x = 0 then wp 81 7 [l0] [] h Q else wp 81 10 [l0] [] h Q := w_ne0 dX8_restore_4 (by decide)
theorem s81_7  : wp 81 7 [l0] [] h Q ↔ wp 81 9 [l0] [.inl (-5)] h Q := w_const2 dX8_restore_7 k_m5 k8_m5
theorem s81_9  : wp 81 9 [l0] [.inl x] h Q ↔ Q (some (.inl x)) h := w_reti dX8_restore_9 (e_ri (by decide +kernel))
theorem s81_10 (h0 : a ≠ 0) : wp 81 10 [.inr (.inl a)] [] h Q ↔ wp 81 11 [.inr (.inl a)] [.inr (.inl a)] h Q := wp_step dX8_restore_10 (fun _ => if_neg h0)
theorem s81_11 (ha : tg a = 7) : wp 81 11 [l0] [.inr (.inl a)] (hp S D) Q ↔ wp 81 14 [l0] [.inr (.inl (a + 62))] (hp S D) Q := w_getR dX8_restore_11 (t := 7) (j := 4) (c := 2) (by decide +kernel) (by decide) rfl (ln_ok (by decide) (by decide)) ha
theorem s81_14 (h0 : a ≠ 0) : wp 81 14 [.inr (.inl a)] [v0] h Q ↔ wp 81 15 [.inr (.inl a)] [.inr (.inl a), v0] h Q := wp_step dX8_restore_14 (fun _ => if_neg h0)
theorem s81_15 (ha : tg a = 7) : wp 81 15 [l0] [.inr (.inl a), v0] (hp S D) Q ↔ wp 81 18 [l0] [.inr (.inl (a + 1)), v0] (hp S D) Q := w_getR dX8_restore_15 (t := 7) (j := 0) (c := 2) (by decide +kernel) (by decide) rfl (ln_ok (by decide) (by decide)) ha
theorem s81_18 (ha : tg a = 2) : wp 81 18 [l0] [.inr (.inl a0), .inr (.inl a)] (hp S D) Q ↔ wp 20 0 [.inr (.inl a), .inr (.inl a0), .inr (.inl 0)] [] (hp S D) (kont 81 21 [l0] [] Q) := w_callV (y2 := 20) (vs := [.inr (.inl a0)]) (st := []) dX8_restore_18 (by decide +kernel) rfl (by decide +kernel) (Nat.le_of_ble_eq_true rfl) (eSm_4 (by simp)) 2 rfl (by decide) ha
theorem s81_21 (h0 : a ≠ 0) : wp 81 21 [.inr (.inl a)] [] h Q ↔ wp 81 22 [.inr (.inl a)] [.inr (.inl a)] h Q := wp_step dX8_restore_21 (fun _ => if_neg h0)
theorem s81_22 (ha : tg a = 7) : wp 81 22 [l0] [.inr (.inl a)] (hp S D) Q ↔ wp 81 25 [l0] [.inr (.inl (a + 1))] (hp S D) Q := w_getR dX8_restore_22 (t := 7) (j := 0) (c := 2) (by decide +kernel) (by decide) rfl (ln_ok (by decide) (by decide)) ha
theorem s81_25 (h0 : a ≠ 0) : wp 81 25 [.inr (.inl a)] [v0] h Q ↔ wp 81 26 [.inr (.inl a)] [.inr (.inl a), v0] h Q := wp_step dX8_restore_25 (fun _ => if_neg h0)
theorem s81_26 (ha : tg a = 7) : wp 81 26 [l0] [.inr (.inl a), v0] (hp S D) Q ↔ wp 81 29 [l0] [.inr (.inl (a + 21)), v0] (hp S D) Q := w_getR dX8_restore_26 (t := 7) (j := 1) (c := 2) (by decide +kernel) (by decide) rfl (ln_ok (by decide) (by decide)) ha
theorem s81_29 (ha : tg a = 0) : wp 81 29 [l0] [.inr (.inl a0), .inr (.inl a)] (hp S D) Q ↔ wp 1 0 [.inr (.inl a), .inr (.inl a0)] [] (hp S D) (kont 81 32 [l0] [] Q) := w_callV (y2 := 1) (vs := [.inr (.inl a0)]) (st := []) dX8_restore_29 (by decide +kernel) rfl (by decide +kernel) (Nat.le_of_ble_eq_true rfl) (eSm_4 (by simp)) 0 rfl (by decide) ha
theorem s81_32 (h0 : a ≠ 0) : wp 81 32 [.inr (.inl a)] [] h Q ↔ wp 81 33 [.inr (.inl a)] [.inr (.inl a)] h Q := wp_step dX8_restore_32 (fun _ => if_neg h0)
theorem s81_33 (ha : tg a = 7) : wp 81 33 [l0] [.inr (.inl a)] (hp S D) Q ↔ wp 81 36 [l0] [.inr (.inl (a + 1))] (hp S D) Q := w_getR dX8_restore_33 (t := 7) (j := 0) (c := 2) (by decide +kernel) (by decide) rfl (ln_ok (by decide) (by decide)) ha
theorem s81_36 (ha : tg a = 0) : wp 81 36 [l0] [.inr (.inl a)] (hp S D) Q ↔ wp 81 39 [l0] [.inl (D a 5)] (hp S D) Q := w_getI dX8_restore_36 (t := 0) (j := 5) (c := 0) (by decide +kernel) (by decide) rfl (ln_ok (by decide) (by decide)) ha
theorem s81_39  : wp 81 39 [l0] [.inl x] h Q ↔ Q (some (.inl x)) h := w_reti dX8_restore_39 (e_ri (by decide +kernel))
end ESTEP
