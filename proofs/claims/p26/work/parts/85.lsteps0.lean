section ELSTEP
variable {l0 l1 l2 l3 l4 l5 l6 l7 l8 l9 v0 v1 v2 v3 v4 v5 v6 v7 : eV} {a a0 a1 a2 a3 : Nat} {x z x0 x1 x2 x3 x4 x5 : Int} {w w0 w1 w2 w3 : Int64} {h G W : eH} {Q : Option eV → eH → Prop} {S : List Int} {D : eD} {L : List Int64}
theorem s101_0  : wp 101 0 [.inl x, l1] [] h Q ↔ wp 101 1 [.inl x, l1] [.inl x] h Q := wp_step dL_part_0 (fun _ => rfl)
theorem s101_1  : wp 101 1 [l0, l1] [v0] h Q ↔ wp 101 3 [l0, l1] [.inl 2147483647, v0] h Q := w_ldc dL_part_1 (by decide +kernel)
theorem s101_3  : wp 101 3 [l0, l1] [.inl z, .inl x] h Q ↔ wp 101 4 [l0, l1] [.inl (Int32.ofInt x &&& Int32.ofInt z).toInt] h Q := wp_step dL_part_3 (fun _ => rfl)
theorem s101_4  : wp 101 4 [l0, .inl x] [v0] h Q ↔ wp 101 5 [l0, .inl x] [.inl x, v0] h Q := wp_step dL_part_4 (fun _ => rfl)
theorem s101_5 (h0 : z ≠ 0) : wp 101 5 [l0, l1] [.inl z, .inl x] h Q ↔ wp 101 6 [l0, l1] [.inl (w32 (x.tmod z))] h Q := w_rem dL_part_5 h0
theorem s101_6  : wp 101 6 [l0, l1] [.inl x] h Q ↔ Q (some (.inl x)) h := w_reti dL_part_6 (e_ri (by decide +kernel))
theorem s102_0 (h0 : a ≠ 0) : wp 102 0 [.inr (.inl a), l1] [] h Q ↔ wp 102 1 [.inr (.inl a), l1] [.inr (.inl a)] h Q := wp_step dL_drawn_0 (fun _ => if_neg h0)
theorem s102_1 (hS : S.length ≤ 2048) : wp 102 1 [l0, l1] [.inr (.inl 7)] (em G W (hp S D)) Q ↔ wp 102 2 [l0, l1] [.inl S.length] (em G W (hp S D)) Q := w_len7 dL_drawn_1 hS
theorem s102_2  : wp 102 2 [l0, l1] [.inl x] h Q ↔ if x = 0 then wp 102 5 [l0, l1] [] h Q else wp 102 15 [l0, l1] [] h Q := w_ne0 dL_drawn_2 (by decide)
theorem s102_5  : wp 102 5 [l0, l1] [] h Q ↔ wp 102 8 [l0, l1] [.inl 7919] h Q := w_const3 dL_drawn_5 k_7919 k16_7919
theorem s102_8  : wp 102 8 [l0, .inl x] [v0] h Q ↔ wp 102 9 [l0, .inl x] [.inl x, v0] h Q := wp_step dL_drawn_8 (fun _ => rfl)
theorem s102_9  : wp 102 9 [l0, l1] [.inl z, .inl x] h Q ↔ wp 102 10 [l0, l1] [.inl (w32 (x * z))] h Q := wp_step dL_drawn_9 (fun _ => rfl)
theorem s102_10  : wp 102 10 [l0, l1] [v0] h Q ↔ wp 102 11 [l0, l1] [.inl 3, v0] h Q := w_const1 dL_drawn_10 k_3
theorem s102_11  : wp 102 11 [l0, l1] [.inl z, .inl x] h Q ↔ wp 102 12 [l0, l1] [.inl (w32 (x + z))] h Q := wp_step dL_drawn_11 (fun _ => rfl)
theorem s102_12  : wp 102 12 [l0, l1] [v0] h Q ↔ wp 102 39 [l0, l1] [v0] h Q := w_goto dL_drawn_12 (by decide)
theorem s102_15 (h0 : a ≠ 0) : wp 102 15 [.inr (.inl a), l1] [] h Q ↔ wp 102 16 [.inr (.inl a), l1] [.inr (.inl a)] h Q := wp_step dL_drawn_15 (fun _ => if_neg h0)
theorem s102_16  : wp 102 16 [l0, .inl x] [v0] h Q ↔ wp 102 17 [l0, .inl x] [.inl x, v0] h Q := wp_step dL_drawn_16 (fun _ => rfl)
theorem s102_17 (h0 : a ≠ 0) : wp 102 17 [.inr (.inl a), l1] [v0, v1] h Q ↔ wp 102 18 [.inr (.inl a), l1] [.inr (.inl a), v0, v1] h Q := wp_step dL_drawn_17 (fun _ => if_neg h0)
theorem s102_18 (hS : S.length ≤ 2048) : wp 102 18 [l0, l1] [.inr (.inl 7), v0, v1] (em G W (hp S D)) Q ↔ wp 102 19 [l0, l1] [.inl S.length, v0, v1] (em G W (hp S D)) Q := w_len7 dL_drawn_18 hS
theorem s102_19 (h0 : z ≠ 0) : wp 102 19 [l0, l1] [.inl z, .inl x, v0] h Q ↔ wp 102 20 [l0, l1] [.inl (w32 (x.tmod z)), v0] h Q := w_rem dL_drawn_19 h0
theorem s102_20 (h0 : 0 ≤ x) (h1 : x < S.length) : wp 102 20 [l0, l1] [.inl x, .inr (.inl 7)] (em G W (hp S D)) Q ↔ wp 102 21 [l0, l1] [.inl (S.getD x.toNat 0)] (em G W (hp S D)) Q := w_ld7 dL_drawn_20 h0 h1
theorem s102_21  : wp 102 21 [l0, .inl x] [v0] h Q ↔ wp 102 22 [l0, .inl x] [.inl x, v0] h Q := wp_step dL_drawn_21 (fun _ => rfl)
theorem s102_22  : wp 102 22 [l0, l1] [v0, v1] h Q ↔ wp 102 24 [l0, l1] [.inl 7, v0, v1] h Q := w_const2 dL_drawn_22 k_7 k8_7
theorem s102_24 (h0 : z ≠ 0) : wp 102 24 [l0, l1] [.inl z, .inl x, v0] h Q ↔ wp 102 25 [l0, l1] [.inl (w32 (x.tmod z)), v0] h Q := w_rem dL_drawn_24 h0
theorem s102_25  : wp 102 25 [l0, l1] [.inl z, .inl x] h Q ↔ wp 102 26 [l0, l1] [.inl (Int32.ofInt x >>> (Int32.ofInt z &&& 31)).toInt] h Q := wp_step dL_drawn_25 (fun _ => rfl)
theorem s102_26  : wp 102 26 [l0, .inl x] [v0] h Q ↔ wp 102 27 [l0, .inl x] [.inl x, v0] h Q := wp_step dL_drawn_26 (fun _ => rfl)
theorem s102_27 (h0 : a ≠ 0) : wp 102 27 [.inr (.inl a), l1] [v0, v1] h Q ↔ wp 102 28 [.inr (.inl a), l1] [.inr (.inl a), v0, v1] h Q := wp_step dL_drawn_27 (fun _ => if_neg h0)
theorem s102_28 (hS : S.length ≤ 2048) : wp 102 28 [l0, l1] [.inr (.inl 7), v0, v1] (em G W (hp S D)) Q ↔ wp 102 29 [l0, l1] [.inl S.length, v0, v1] (em G W (hp S D)) Q := w_len7 dL_drawn_28 hS
theorem s102_29 (h0 : z ≠ 0) : wp 102 29 [l0, l1] [.inl z, .inl x, v0] h Q ↔ wp 102 30 [l0, l1] [.inl (w32 (x.tdiv z)), v0] h Q := w_div dL_drawn_29 h0
theorem s102_30  : wp 102 30 [l0, l1] [v0, v1] h Q ↔ wp 102 32 [l0, l1] [.inl 31, v0, v1] h Q := w_const2 dL_drawn_30 k_31 k8_31
theorem s102_32  : wp 102 32 [l0, l1] [.inl z, .inl x, v0] h Q ↔ wp 102 33 [l0, l1] [.inl (w32 (x * z)), v0] h Q := wp_step dL_drawn_32 (fun _ => rfl)
theorem s102_33  : wp 102 33 [l0, l1] [.inl z, .inl x] h Q ↔ wp 102 34 [l0, l1] [.inl (Int32.ofInt x ^^^ Int32.ofInt z).toInt] h Q := wp_step dL_drawn_33 (fun _ => rfl)
theorem s102_34  : wp 102 34 [l0, .inl x] [v0] h Q ↔ wp 102 35 [l0, .inl x] [.inl x, v0] h Q := wp_step dL_drawn_34 (fun _ => rfl)
theorem s102_35  : wp 102 35 [l0, l1] [v0, v1] h Q ↔ wp 102 37 [l0, l1] [.inl 2654435, v0, v1] h Q := w_ldc dL_drawn_35 (by decide +kernel)
theorem s102_37  : wp 102 37 [l0, l1] [.inl z, .inl x, v0] h Q ↔ wp 102 38 [l0, l1] [.inl (w32 (x * z)), v0] h Q := wp_step dL_drawn_37 (fun _ => rfl)
theorem s102_38  : wp 102 38 [l0, l1] [.inl z, .inl x] h Q ↔ wp 102 39 [l0, l1] [.inl (Int32.ofInt x ^^^ Int32.ofInt z).toInt] h Q := wp_step dL_drawn_38 (fun _ => rfl)
theorem s102_39  : wp 102 39 [l0, l1] [.inl x] h Q ↔ Q (some (.inl x)) h := w_reti dL_drawn_39 (e_ri (by decide +kernel))
theorem s103_0  : wp 103 0 [l0, l1, l2, l3] [] h Q ↔ wp 103 3 [l0, l1, l2, l3] [.inr (.inr (Int64.ofInt 7))] h Q := w_ldc2 dL_seen_0 (by decide +kernel)
theorem s103_3  : wp 103 3 [l0, l1, l2, l3] [.inr (.inr w)] h Q ↔ wp 103 4 [l0, .inr (.inr w), .inr (.inl 0), l3] [] h Q := wp_step dL_seen_3 (fun _ => rfl)
theorem s103_4  : wp 103 4 [l0, l1, l2, l3] [] h Q ↔ wp 103 5 [l0, l1, l2, l3] [.inl 0] h Q := w_const1 dL_seen_4 k_0
theorem s103_5  : wp 103 5 [l0, l1, l2, l3] [.inl x] h Q ↔ wp 103 6 [l0, l1, l2, .inl x] [] h Q := wp_step dL_seen_5 (fun _ => rfl)
theorem s103_6  : wp 103 6 [l0, l1, l2, .inl x] [] h Q ↔ wp 103 7 [l0, l1, l2, .inl x] [.inl x] h Q := wp_step dL_seen_6 (fun _ => rfl)
theorem s103_7  : wp 103 7 [l0, l1, l2, l3] [v0] h Q ↔ wp 103 9 [l0, l1, l2, l3] [.inl 12, v0] h Q := w_const2 dL_seen_7 k_12 k8_12
theorem s103_9  : wp 103 9 [l0, l1, l2, l3] [.inl z, .inl x] h Q ↔ if x < z then wp 103 12 [l0, l1, l2, l3] [] h Q else wp 103 31 [l0, l1, l2, l3] [] h Q := w_cge dL_seen_9 (by decide)
theorem s103_12  : wp 103 12 [l0, l1, l2, l3] [] h Q ↔ wp 103 15 [l0, l1, l2, l3] [.inr (.inr (Int64.ofInt 31))] h Q := w_ldc2 dL_seen_12 (by decide +kernel)
theorem s103_15  : wp 103 15 [l0, .inr (.inr w), l2, l3] [v0] h Q ↔ wp 103 16 [l0, .inr (.inr w), l2, l3] [.inr (.inr w), v0] h Q := wp_step dL_seen_15 (fun _ => rfl)
theorem s103_16  : wp 103 16 [l0, l1, l2, l3] [.inr (.inr w1), .inr (.inr w0)] h Q ↔ wp 103 17 [l0, l1, l2, l3] [.inr (.inr (w0 * w1))] h Q := wp_step dL_seen_16 (fun _ => rfl)
theorem s103_17 (h0 : a ≠ 0) : wp 103 17 [.inr (.inl a), l1, l2, l3] [v0] h Q ↔ wp 103 18 [.inr (.inl a), l1, l2, l3] [.inr (.inl a), v0] h Q := wp_step dL_seen_17 (fun _ => if_neg h0)
theorem s103_18  : wp 103 18 [l0, l1, l2, .inl x] [v0, v1] h Q ↔ wp 103 19 [l0, l1, l2, .inl x] [.inl x, v0, v1] h Q := wp_step dL_seen_18 (fun _ => rfl)
theorem s103_19  : wp 103 19 [l0, l1, l2, l3] [.inl x0, .inr (.inl (8 + G.length)), v0] (em G W (hp S D)) Q ↔ wp 89 0 [.inr (.inl (8 + G.length)), .inl x0] [] (em G W (hp S D)) (kont 103 22 [l0, l1, l2, l3] [v0] Q) := w_callVh (y2 := 89) (vs := [.inl x0]) (st := [v0]) dL_seen_19 (by decide +kernel) rfl (by decide +kernel) (Nat.le_of_ble_eq_true rfl) (eSm_4 (by simp)) 7 rfl em_o rfl (by omega)
theorem s103_22  : wp 103 22 [l0, l1, l2, l3] [.inl x, v0] h Q ↔ wp 103 23 [l0, l1, l2, l3] [.inr (.inr (Int32.ofInt x).toInt64), v0] h Q := wp_step dL_seen_22 (fun _ => rfl)
theorem s103_23  : wp 103 23 [l0, l1, l2, l3] [.inr (.inr w1), .inr (.inr w0)] h Q ↔ wp 103 24 [l0, l1, l2, l3] [.inr (.inr (w0 + w1))] h Q := wp_step dL_seen_23 (fun _ => rfl)
theorem s103_24  : wp 103 24 [l0, l1, l2, l3] [.inr (.inr w)] h Q ↔ wp 103 25 [l0, .inr (.inr w), .inr (.inl 0), l3] [] h Q := wp_step dL_seen_24 (fun _ => rfl)
theorem s103_25  : wp 103 25 [l0, l1, l2, .inl x] [] h Q ↔ wp 103 28 [l0, l1, l2, .inl (w32 (x + 1))] [] h Q := wp_step dL_seen_25 (fun _ => rfl)
theorem s103_28  : wp 103 28 [l0, l1, l2, l3] [] h Q ↔ wp 103 6 [l0, l1, l2, l3] [] h Q := w_goto dL_seen_28 (by decide)
theorem s103_31  : wp 103 31 [l0, l1, l2, l3] [] h Q ↔ wp 103 32 [l0, l1, l2, l3] [.inl 0] h Q := w_const1 dL_seen_31 k_0
theorem s103_32  : wp 103 32 [l0, l1, l2, l3] [.inl x] h Q ↔ wp 103 33 [l0, l1, l2, .inl x] [] h Q := wp_step dL_seen_32 (fun _ => rfl)
theorem s103_33  : wp 103 33 [l0, l1, l2, .inl x] [] h Q ↔ wp 103 34 [l0, l1, l2, .inl x] [.inl x] h Q := wp_step dL_seen_33 (fun _ => rfl)
theorem s103_34  : wp 103 34 [l0, l1, l2, l3] [v0] h Q ↔ wp 103 36 [l0, l1, l2, l3] [.inl 8, v0] h Q := w_const2 dL_seen_34 k_8 k8_8
theorem s103_36  : wp 103 36 [l0, l1, l2, l3] [.inl z, .inl x] h Q ↔ if x < z then wp 103 39 [l0, l1, l2, l3] [] h Q else wp 103 58 [l0, l1, l2, l3] [] h Q := w_cge dL_seen_36 (by decide)
theorem s103_39  : wp 103 39 [l0, l1, l2, l3] [] h Q ↔ wp 103 42 [l0, l1, l2, l3] [.inr (.inr (Int64.ofInt 31))] h Q := w_ldc2 dL_seen_39 (by decide +kernel)
theorem s103_42  : wp 103 42 [l0, .inr (.inr w), l2, l3] [v0] h Q ↔ wp 103 43 [l0, .inr (.inr w), l2, l3] [.inr (.inr w), v0] h Q := wp_step dL_seen_42 (fun _ => rfl)
theorem s103_43  : wp 103 43 [l0, l1, l2, l3] [.inr (.inr w1), .inr (.inr w0)] h Q ↔ wp 103 44 [l0, l1, l2, l3] [.inr (.inr (w0 * w1))] h Q := wp_step dL_seen_43 (fun _ => rfl)
theorem s103_44 (h0 : a ≠ 0) : wp 103 44 [.inr (.inl a), l1, l2, l3] [v0] h Q ↔ wp 103 45 [.inr (.inl a), l1, l2, l3] [.inr (.inl a), v0] h Q := wp_step dL_seen_44 (fun _ => if_neg h0)
theorem s103_45  : wp 103 45 [l0, l1, l2, .inl x] [v0, v1] h Q ↔ wp 103 46 [l0, l1, l2, .inl x] [.inl x, v0, v1] h Q := wp_step dL_seen_45 (fun _ => rfl)
theorem s103_46  : wp 103 46 [l0, l1, l2, l3] [.inl x0, .inr (.inl (8 + G.length)), v0] (em G W (hp S D)) Q ↔ wp 83 0 [.inr (.inl (8 + G.length)), .inl x0] [] (em G W (hp S D)) (kont 103 49 [l0, l1, l2, l3] [v0] Q) := w_callVh (y2 := 83) (vs := [.inl x0]) (st := [v0]) dL_seen_46 (by decide +kernel) rfl (by decide +kernel) (Nat.le_of_ble_eq_true rfl) (eSm_4 (by simp)) 7 rfl em_o rfl (by omega)
theorem s103_49  : wp 103 49 [l0, l1, l2, l3] [.inl x, v0] h Q ↔ wp 103 50 [l0, l1, l2, l3] [.inr (.inr (Int32.ofInt x).toInt64), v0] h Q := wp_step dL_seen_49 (fun _ => rfl)
theorem s103_50  : wp 103 50 [l0, l1, l2, l3] [.inr (.inr w1), .inr (.inr w0)] h Q ↔ wp 103 51 [l0, l1, l2, l3] [.inr (.inr (w0 + w1))] h Q := wp_step dL_seen_50 (fun _ => rfl)
theorem s103_51  : wp 103 51 [l0, l1, l2, l3] [.inr (.inr w)] h Q ↔ wp 103 52 [l0, .inr (.inr w), .inr (.inl 0), l3] [] h Q := wp_step dL_seen_51 (fun _ => rfl)
theorem s103_52  : wp 103 52 [l0, l1, l2, .inl x] [] h Q ↔ wp 103 55 [l0, l1, l2, .inl (w32 (x + 1))] [] h Q := wp_step dL_seen_52 (fun _ => rfl)
theorem s103_55  : wp 103 55 [l0, l1, l2, l3] [] h Q ↔ wp 103 33 [l0, l1, l2, l3] [] h Q := w_goto dL_seen_55 (by decide)
theorem s103_58  : wp 103 58 [l0, l1, l2, l3] [] h Q ↔ wp 103 59 [l0, l1, l2, l3] [.inl 0] h Q := w_const1 dL_seen_58 k_0
theorem s103_59  : wp 103 59 [l0, l1, l2, l3] [.inl x] h Q ↔ wp 103 60 [l0, l1, l2, .inl x] [] h Q := wp_step dL_seen_59 (fun _ => rfl)
theorem s103_60  : wp 103 60 [l0, l1, l2, .inl x] [] h Q ↔ wp 103 61 [l0, l1, l2, .inl x] [.inl x] h Q := wp_step dL_seen_60 (fun _ => rfl)
theorem s103_61  : wp 103 61 [l0, l1, l2, l3] [v0] h Q ↔ wp 103 63 [l0, l1, l2, l3] [.inl 48, v0] h Q := w_const2 dL_seen_61 k_48 k8_48
theorem s103_63  : wp 103 63 [l0, l1, l2, l3] [.inl z, .inl x] h Q ↔ if x < z then wp 103 66 [l0, l1, l2, l3] [] h Q else wp 103 92 [l0, l1, l2, l3] [] h Q := w_cge dL_seen_63 (by decide)
theorem s103_66  : wp 103 66 [l0, l1, l2, l3] [] h Q ↔ wp 103 69 [l0, l1, l2, l3] [.inr (.inr (Int64.ofInt 31))] h Q := w_ldc2 dL_seen_66 (by decide +kernel)
theorem s103_69  : wp 103 69 [l0, .inr (.inr w), l2, l3] [v0] h Q ↔ wp 103 70 [l0, .inr (.inr w), l2, l3] [.inr (.inr w), v0] h Q := wp_step dL_seen_69 (fun _ => rfl)
theorem s103_70  : wp 103 70 [l0, l1, l2, l3] [.inr (.inr w1), .inr (.inr w0)] h Q ↔ wp 103 71 [l0, l1, l2, l3] [.inr (.inr (w0 * w1))] h Q := wp_step dL_seen_70 (fun _ => rfl)
theorem s103_71 (h0 : a ≠ 0) : wp 103 71 [.inr (.inl a), l1, l2, l3] [v0] h Q ↔ wp 103 72 [.inr (.inl a), l1, l2, l3] [.inr (.inl a), v0] h Q := wp_step dL_seen_71 (fun _ => if_neg h0)
theorem s103_72  : wp 103 72 [l0, l1, l2, .inl x] [v0, v1] h Q ↔ wp 103 73 [l0, l1, l2, .inl x] [.inl x, v0, v1] h Q := wp_step dL_seen_72 (fun _ => rfl)
theorem s103_73  : wp 103 73 [l0, l1, l2, l3] [v0, v1, v2] h Q ↔ wp 103 75 [l0, l1, l2, l3] [.inl 8, v0, v1, v2] h Q := w_const2 dL_seen_73 k_8 k8_8
theorem s103_75 (h0 : z ≠ 0) : wp 103 75 [l0, l1, l2, l3] [.inl z, .inl x, v0, v1] h Q ↔ wp 103 76 [l0, l1, l2, l3] [.inl (w32 (x.tdiv z)), v0, v1] h Q := w_div dL_seen_75 h0
theorem s103_76  : wp 103 76 [l0, l1, l2, .inl x] [v0, v1, v2] h Q ↔ wp 103 77 [l0, l1, l2, .inl x] [.inl x, v0, v1, v2] h Q := wp_step dL_seen_76 (fun _ => rfl)
theorem s103_77  : wp 103 77 [l0, l1, l2, l3] [v0, v1, v2, v3] h Q ↔ wp 103 79 [l0, l1, l2, l3] [.inl 8, v0, v1, v2, v3] h Q := w_const2 dL_seen_77 k_8 k8_8
theorem s103_79 (h0 : z ≠ 0) : wp 103 79 [l0, l1, l2, l3] [.inl z, .inl x, v0, v1, v2] h Q ↔ wp 103 80 [l0, l1, l2, l3] [.inl (w32 (x.tmod z)), v0, v1, v2] h Q := w_rem dL_seen_79 h0
theorem s103_80  : wp 103 80 [l0, l1, l2, l3] [.inl x1, .inl x0, .inr (.inl (8 + G.length)), v0] (em G W (hp S D)) Q ↔ wp 82 0 [.inr (.inl (8 + G.length)), .inl x0, .inl x1, .inr (.inl 0)] [] (em G W (hp S D)) (kont 103 83 [l0, l1, l2, l3] [v0] Q) := w_callVh (y2 := 82) (vs := [.inl x0, .inl x1]) (st := [v0]) dL_seen_80 (by decide +kernel) rfl (by decide +kernel) (Nat.le_of_ble_eq_true rfl) (eSm_4 (by simp)) 7 rfl em_o rfl (by omega)
theorem s103_83  : wp 103 83 [l0, l1, l2, l3] [.inl x, v0] h Q ↔ wp 103 84 [l0, l1, l2, l3] [.inr (.inr (Int32.ofInt x).toInt64), v0] h Q := wp_step dL_seen_83 (fun _ => rfl)
theorem s103_84  : wp 103 84 [l0, l1, l2, l3] [.inr (.inr w1), .inr (.inr w0)] h Q ↔ wp 103 85 [l0, l1, l2, l3] [.inr (.inr (w0 + w1))] h Q := wp_step dL_seen_84 (fun _ => rfl)
theorem s103_85  : wp 103 85 [l0, l1, l2, l3] [.inr (.inr w)] h Q ↔ wp 103 86 [l0, .inr (.inr w), .inr (.inl 0), l3] [] h Q := wp_step dL_seen_85 (fun _ => rfl)
theorem s103_86  : wp 103 86 [l0, l1, l2, .inl x] [] h Q ↔ wp 103 89 [l0, l1, l2, .inl (w32 (x + 1))] [] h Q := wp_step dL_seen_86 (fun _ => rfl)
theorem s103_89  : wp 103 89 [l0, l1, l2, l3] [] h Q ↔ wp 103 60 [l0, l1, l2, l3] [] h Q := w_goto dL_seen_89 (by decide)
theorem s103_92  : wp 103 92 [l0, l1, l2, l3] [] h Q ↔ wp 103 93 [l0, l1, l2, l3] [.inl 0] h Q := w_const1 dL_seen_92 k_0
theorem s103_93  : wp 103 93 [l0, l1, l2, l3] [.inl x] h Q ↔ wp 103 94 [l0, l1, l2, .inl x] [] h Q := wp_step dL_seen_93 (fun _ => rfl)
theorem s103_94  : wp 103 94 [l0, l1, l2, .inl x] [] h Q ↔ wp 103 95 [l0, l1, l2, .inl x] [.inl x] h Q := wp_step dL_seen_94 (fun _ => rfl)
theorem s103_95  : wp 103 95 [l0, l1, l2, l3] [v0] h Q ↔ wp 103 97 [l0, l1, l2, l3] [.inl 30, v0] h Q := w_const2 dL_seen_95 k_30 k8_30
theorem s103_97  : wp 103 97 [l0, l1, l2, l3] [.inl z, .inl x] h Q ↔ if x < z then wp 103 100 [l0, l1, l2, l3] [] h Q else wp 103 140 [l0, l1, l2, l3] [] h Q := w_cge dL_seen_97 (by decide)
theorem s103_100  : wp 103 100 [l0, l1, l2, l3] [] h Q ↔ wp 103 103 [l0, l1, l2, l3] [.inr (.inr (Int64.ofInt 31))] h Q := w_ldc2 dL_seen_100 (by decide +kernel)
theorem s103_103  : wp 103 103 [l0, l1, l2, l3] [v0] h Q ↔ wp 103 106 [l0, l1, l2, l3] [.inr (.inr (Int64.ofInt 31)), v0] h Q := w_ldc2 dL_seen_103 (by decide +kernel)
theorem s103_106  : wp 103 106 [l0, .inr (.inr w), l2, l3] [v0, v1] h Q ↔ wp 103 107 [l0, .inr (.inr w), l2, l3] [.inr (.inr w), v0, v1] h Q := wp_step dL_seen_106 (fun _ => rfl)
theorem s103_107  : wp 103 107 [l0, l1, l2, l3] [.inr (.inr w1), .inr (.inr w0), v0] h Q ↔ wp 103 108 [l0, l1, l2, l3] [.inr (.inr (w0 * w1)), v0] h Q := wp_step dL_seen_107 (fun _ => rfl)
theorem s103_108 (h0 : a ≠ 0) : wp 103 108 [.inr (.inl a), l1, l2, l3] [v0, v1] h Q ↔ wp 103 109 [.inr (.inl a), l1, l2, l3] [.inr (.inl a), v0, v1] h Q := wp_step dL_seen_108 (fun _ => if_neg h0)
theorem s103_109  : wp 103 109 [l0, l1, l2, .inl x] [v0, v1, v2] h Q ↔ wp 103 110 [l0, l1, l2, .inl x] [.inl x, v0, v1, v2] h Q := wp_step dL_seen_109 (fun _ => rfl)
theorem s103_110  : wp 103 110 [l0, l1, l2, l3] [v0, v1, v2, v3] h Q ↔ wp 103 111 [l0, l1, l2, l3] [.inl 3, v0, v1, v2, v3] h Q := w_const1 dL_seen_110 k_3
theorem s103_111 (h0 : z ≠ 0) : wp 103 111 [l0, l1, l2, l3] [.inl z, .inl x, v0, v1, v2] h Q ↔ wp 103 112 [l0, l1, l2, l3] [.inl (w32 (x.tdiv z)), v0, v1, v2] h Q := w_div dL_seen_111 h0
theorem s103_112  : wp 103 112 [l0, l1, l2, .inl x] [v0, v1, v2, v3] h Q ↔ wp 103 113 [l0, l1, l2, .inl x] [.inl x, v0, v1, v2, v3] h Q := wp_step dL_seen_112 (fun _ => rfl)
theorem s103_113  : wp 103 113 [l0, l1, l2, l3] [v0, v1, v2, v3, v4] h Q ↔ wp 103 114 [l0, l1, l2, l3] [.inl 3, v0, v1, v2, v3, v4] h Q := w_const1 dL_seen_113 k_3
theorem s103_114 (h0 : z ≠ 0) : wp 103 114 [l0, l1, l2, l3] [.inl z, .inl x, v0, v1, v2, v3] h Q ↔ wp 103 115 [l0, l1, l2, l3] [.inl (w32 (x.tmod z)), v0, v1, v2, v3] h Q := w_rem dL_seen_114 h0
theorem s103_115  : wp 103 115 [l0, l1, l2, l3] [.inl x1, .inl x0, .inr (.inl (8 + G.length)), v0, v1] (em G W (hp S D)) Q ↔ wp 87 0 [.inr (.inl (8 + G.length)), .inl x0, .inl x1, .inr (.inl 0)] [] (em G W (hp S D)) (kont 103 118 [l0, l1, l2, l3] [v0, v1] Q) := w_callVh (y2 := 87) (vs := [.inl x0, .inl x1]) (st := [v0, v1]) dL_seen_115 (by decide +kernel) rfl (by decide +kernel) (Nat.le_of_ble_eq_true rfl) (eSm_4 (by simp)) 7 rfl em_o rfl (by omega)
theorem s103_118  : wp 103 118 [l0, l1, l2, l3] [.inl x, v0, v1] h Q ↔ wp 103 119 [l0, l1, l2, l3] [.inr (.inr (Int32.ofInt x).toInt64), v0, v1] h Q := wp_step dL_seen_118 (fun _ => rfl)
theorem s103_119  : wp 103 119 [l0, l1, l2, l3] [.inr (.inr w1), .inr (.inr w0), v0] h Q ↔ wp 103 120 [l0, l1, l2, l3] [.inr (.inr (w0 + w1)), v0] h Q := wp_step dL_seen_119 (fun _ => rfl)
theorem s103_120  : wp 103 120 [l0, l1, l2, l3] [.inr (.inr w1), .inr (.inr w0)] h Q ↔ wp 103 121 [l0, l1, l2, l3] [.inr (.inr (w0 * w1))] h Q := wp_step dL_seen_120 (fun _ => rfl)
theorem s103_121 (h0 : a ≠ 0) : wp 103 121 [.inr (.inl a), l1, l2, l3] [v0] h Q ↔ wp 103 122 [.inr (.inl a), l1, l2, l3] [.inr (.inl a), v0] h Q := wp_step dL_seen_121 (fun _ => if_neg h0)
theorem s103_122  : wp 103 122 [l0, l1, l2, .inl x] [v0, v1] h Q ↔ wp 103 123 [l0, l1, l2, .inl x] [.inl x, v0, v1] h Q := wp_step dL_seen_122 (fun _ => rfl)
theorem s103_123  : wp 103 123 [l0, l1, l2, l3] [v0, v1, v2] h Q ↔ wp 103 124 [l0, l1, l2, l3] [.inl 3, v0, v1, v2] h Q := w_const1 dL_seen_123 k_3
theorem s103_124 (h0 : z ≠ 0) : wp 103 124 [l0, l1, l2, l3] [.inl z, .inl x, v0, v1] h Q ↔ wp 103 125 [l0, l1, l2, l3] [.inl (w32 (x.tdiv z)), v0, v1] h Q := w_div dL_seen_124 h0
theorem s103_125  : wp 103 125 [l0, l1, l2, .inl x] [v0, v1, v2] h Q ↔ wp 103 126 [l0, l1, l2, .inl x] [.inl x, v0, v1, v2] h Q := wp_step dL_seen_125 (fun _ => rfl)
theorem s103_126  : wp 103 126 [l0, l1, l2, l3] [v0, v1, v2, v3] h Q ↔ wp 103 127 [l0, l1, l2, l3] [.inl 3, v0, v1, v2, v3] h Q := w_const1 dL_seen_126 k_3
theorem s103_127 (h0 : z ≠ 0) : wp 103 127 [l0, l1, l2, l3] [.inl z, .inl x, v0, v1, v2] h Q ↔ wp 103 128 [l0, l1, l2, l3] [.inl (w32 (x.tmod z)), v0, v1, v2] h Q := w_rem dL_seen_127 h0
theorem s103_128  : wp 103 128 [l0, l1, l2, l3] [.inl x1, .inl x0, .inr (.inl (8 + G.length)), v0] (em G W (hp S D)) Q ↔ wp 88 0 [.inr (.inl (8 + G.length)), .inl x0, .inl x1, .inr (.inl 0)] [] (em G W (hp S D)) (kont 103 131 [l0, l1, l2, l3] [v0] Q) := w_callVh (y2 := 88) (vs := [.inl x0, .inl x1]) (st := [v0]) dL_seen_128 (by decide +kernel) rfl (by decide +kernel) (Nat.le_of_ble_eq_true rfl) (eSm_4 (by simp)) 7 rfl em_o rfl (by omega)
theorem s103_131  : wp 103 131 [l0, l1, l2, l3] [.inl x, v0] h Q ↔ wp 103 132 [l0, l1, l2, l3] [.inr (.inr (Int32.ofInt x).toInt64), v0] h Q := wp_step dL_seen_131 (fun _ => rfl)
theorem s103_132  : wp 103 132 [l0, l1, l2, l3] [.inr (.inr w1), .inr (.inr w0)] h Q ↔ wp 103 133 [l0, l1, l2, l3] [.inr (.inr (w0 + w1))] h Q := wp_step dL_seen_132 (fun _ => rfl)
theorem s103_133  : wp 103 133 [l0, l1, l2, l3] [.inr (.inr w)] h Q ↔ wp 103 134 [l0, .inr (.inr w), .inr (.inl 0), l3] [] h Q := wp_step dL_seen_133 (fun _ => rfl)
theorem s103_134  : wp 103 134 [l0, l1, l2, .inl x] [] h Q ↔ wp 103 137 [l0, l1, l2, .inl (w32 (x + 1))] [] h Q := wp_step dL_seen_134 (fun _ => rfl)
theorem s103_137  : wp 103 137 [l0, l1, l2, l3] [] h Q ↔ wp 103 94 [l0, l1, l2, l3] [] h Q := w_goto dL_seen_137 (by decide)
theorem s103_140  : wp 103 140 [l0, l1, l2, l3] [] h Q ↔ wp 103 141 [l0, l1, l2, l3] [.inl 0] h Q := w_const1 dL_seen_140 k_0
theorem s103_141  : wp 103 141 [l0, l1, l2, l3] [.inl x] h Q ↔ wp 103 142 [l0, l1, l2, .inl x] [] h Q := wp_step dL_seen_141 (fun _ => rfl)
theorem s103_142  : wp 103 142 [l0, l1, l2, .inl x] [] h Q ↔ wp 103 143 [l0, l1, l2, .inl x] [.inl x] h Q := wp_step dL_seen_142 (fun _ => rfl)
theorem s103_143  : wp 103 143 [l0, l1, l2, l3] [v0] h Q ↔ wp 103 144 [l0, l1, l2, l3] [.inl 4, v0] h Q := w_const1 dL_seen_143 k_4
theorem s103_144  : wp 103 144 [l0, l1, l2, l3] [.inl z, .inl x] h Q ↔ if x < z then wp 103 147 [l0, l1, l2, l3] [] h Q else wp 103 166 [l0, l1, l2, l3] [] h Q := w_cge dL_seen_144 (by decide)
theorem s103_147  : wp 103 147 [l0, l1, l2, l3] [] h Q ↔ wp 103 150 [l0, l1, l2, l3] [.inr (.inr (Int64.ofInt 31))] h Q := w_ldc2 dL_seen_147 (by decide +kernel)
theorem s103_150  : wp 103 150 [l0, .inr (.inr w), l2, l3] [v0] h Q ↔ wp 103 151 [l0, .inr (.inr w), l2, l3] [.inr (.inr w), v0] h Q := wp_step dL_seen_150 (fun _ => rfl)
theorem s103_151  : wp 103 151 [l0, l1, l2, l3] [.inr (.inr w1), .inr (.inr w0)] h Q ↔ wp 103 152 [l0, l1, l2, l3] [.inr (.inr (w0 * w1))] h Q := wp_step dL_seen_151 (fun _ => rfl)
theorem s103_152 (h0 : a ≠ 0) : wp 103 152 [.inr (.inl a), l1, l2, l3] [v0] h Q ↔ wp 103 153 [.inr (.inl a), l1, l2, l3] [.inr (.inl a), v0] h Q := wp_step dL_seen_152 (fun _ => if_neg h0)
theorem s103_153  : wp 103 153 [l0, l1, l2, .inl x] [v0, v1] h Q ↔ wp 103 154 [l0, l1, l2, .inl x] [.inl x, v0, v1] h Q := wp_step dL_seen_153 (fun _ => rfl)
theorem s103_154  : wp 103 154 [l0, l1, l2, l3] [.inl x0, .inr (.inl (8 + G.length)), v0] (em G W (hp S D)) Q ↔ wp 90 0 [.inr (.inl (8 + G.length)), .inl x0] [] (em G W (hp S D)) (kont 103 157 [l0, l1, l2, l3] [v0] Q) := w_callVh (y2 := 90) (vs := [.inl x0]) (st := [v0]) dL_seen_154 (by decide +kernel) rfl (by decide +kernel) (Nat.le_of_ble_eq_true rfl) (eSm_4 (by simp)) 7 rfl em_o rfl (by omega)
theorem s103_157  : wp 103 157 [l0, l1, l2, l3] [.inl x, v0] h Q ↔ wp 103 158 [l0, l1, l2, l3] [.inr (.inr (Int32.ofInt x).toInt64), v0] h Q := wp_step dL_seen_157 (fun _ => rfl)
theorem s103_158  : wp 103 158 [l0, l1, l2, l3] [.inr (.inr w1), .inr (.inr w0)] h Q ↔ wp 103 159 [l0, l1, l2, l3] [.inr (.inr (w0 + w1))] h Q := wp_step dL_seen_158 (fun _ => rfl)
theorem s103_159  : wp 103 159 [l0, l1, l2, l3] [.inr (.inr w)] h Q ↔ wp 103 160 [l0, .inr (.inr w), .inr (.inl 0), l3] [] h Q := wp_step dL_seen_159 (fun _ => rfl)
theorem s103_160  : wp 103 160 [l0, l1, l2, .inl x] [] h Q ↔ wp 103 163 [l0, l1, l2, .inl (w32 (x + 1))] [] h Q := wp_step dL_seen_160 (fun _ => rfl)
theorem s103_163  : wp 103 163 [l0, l1, l2, l3] [] h Q ↔ wp 103 142 [l0, l1, l2, l3] [] h Q := w_goto dL_seen_163 (by decide)
theorem s103_166  : wp 103 166 [l0, .inr (.inr w), l2, l3] [] h Q ↔ wp 103 167 [l0, .inr (.inr w), l2, l3] [.inr (.inr w)] h Q := wp_step dL_seen_166 (fun _ => rfl)
theorem s103_167  : wp 103 167 [l0, l1, l2, l3] [.inr (.inr w)] h Q ↔ Q (some (.inr (.inr w))) h := wp_end dL_seen_167 (fun _ => rfl)
theorem s104_0  : wp 104 0 [l0, .inl x, l2] [] h Q ↔ wp 104 1 [l0, .inl x, l2] [.inl x] h Q := wp_step dL_refusesAny_0 (fun _ => rfl)
theorem s104_1  : wp 104 1 [l0, l1, l2] [.inl x] h Q ↔ if x = 0 then wp 104 4 [l0, l1, l2] [] h Q else wp 104 8 [l0, l1, l2] [] h Q := w_ne0 dL_refusesAny_1 (by decide)
theorem s104_4  : wp 104 4 [l0, l1, l2] [] h Q ↔ wp 104 5 [l0, l1, l2] [.inl (-1)] h Q := w_const1 dL_refusesAny_4 k_m1
theorem s104_5  : wp 104 5 [l0, l1, l2] [v0] h Q ↔ wp 104 10 [l0, l1, l2] [v0] h Q := w_goto dL_refusesAny_5 (by decide)
theorem s104_8  : wp 104 8 [l0, l1, l2] [] h Q ↔ wp 104 10 [l0, l1, l2] [.inl 6] h Q := w_const2 dL_refusesAny_8 k_6 k8_6
theorem s104_10  : wp 104 10 [l0, l1, l2] [.inl x] h Q ↔ wp 104 11 [l0, l1, .inl x] [] h Q := wp_step dL_refusesAny_10 (fun _ => rfl)
theorem s104_11 (h0 : a ≠ 0) : wp 104 11 [.inr (.inl a), l1, l2] [] h Q ↔ wp 104 12 [.inr (.inl a), l1, l2] [.inr (.inl a)] h Q := wp_step dL_refusesAny_11 (fun _ => if_neg h0)
theorem s104_12  : wp 104 12 [l0, .inl x, l2] [v0] h Q ↔ wp 104 13 [l0, .inl x, l2] [.inl x, v0] h Q := wp_step dL_refusesAny_12 (fun _ => rfl)
theorem s104_13  : wp 104 13 [l0, l1, l2] [.inl x, v0] h Q ↔ if x = 0 then wp 104 16 [l0, l1, l2] [v0] h Q else wp 104 20 [l0, l1, l2] [v0] h Q := w_ne0 dL_refusesAny_13 (by decide)
theorem s104_16  : wp 104 16 [l0, l1, l2] [v0] h Q ↔ wp 104 17 [l0, l1, l2] [.inl (-1), v0] h Q := w_const1 dL_refusesAny_16 k_m1
theorem s104_17  : wp 104 17 [l0, l1, l2] [v0, v1] h Q ↔ wp 104 21 [l0, l1, l2] [v0, v1] h Q := w_goto dL_refusesAny_17 (by decide)
theorem s104_20  : wp 104 20 [l0, l1, l2] [v0] h Q ↔ wp 104 21 [l0, l1, l2] [.inl 4, v0] h Q := w_const1 dL_refusesAny_20 k_4
theorem s104_21  : wp 104 21 [l0, l1, l2] [v0, v1] h Q ↔ wp 104 22 [l0, l1, l2] [.inl 1, v0, v1] h Q := w_const1 dL_refusesAny_21 k_1
theorem s104_22  : wp 104 22 [l0, l1, l2] [.inl x1, .inl x0, .inr (.inl (8 + G.length))] (em G W (hp S D)) Q ↔ wp 68 0 [.inr (.inl (8 + G.length)), .inl x0, .inl x1, .inr (.inl 0)] [] (em G W (hp S D)) (kont 104 25 [l0, l1, l2] [] Q) := w_callVh (y2 := 68) (vs := [.inl x0, .inl x1]) (st := []) dL_refusesAny_22 (by decide +kernel) rfl (by decide +kernel) (Nat.le_of_ble_eq_true rfl) (eSm_4 (by simp)) 7 rfl em_o rfl (by omega)
theorem s104_25  : wp 104 25 [l0, l1, l2] [v0] h Q ↔ wp 104 26 [l0, l1, l2] [.inl (-1), v0] h Q := w_const1 dL_refusesAny_25 k_m1
theorem s104_26  : wp 104 26 [l0, l1, l2] [.inl z, .inl x] h Q ↔ if x = z then wp 104 29 [l0, l1, l2] [] h Q else wp 104 198 [l0, l1, l2] [] h Q := w_cne dL_refusesAny_26 (by decide)
theorem s104_29 (h0 : a ≠ 0) : wp 104 29 [.inr (.inl a), l1, l2] [] h Q ↔ wp 104 30 [.inr (.inl a), l1, l2] [.inr (.inl a)] h Q := wp_step dL_refusesAny_29 (fun _ => if_neg h0)
theorem s104_30  : wp 104 30 [l0, l1, l2] [v0] h Q ↔ wp 104 31 [l0, l1, l2] [.inl 0, v0] h Q := w_const1 dL_refusesAny_30 k_0
theorem s104_31  : wp 104 31 [l0, .inl x, l2] [v0, v1] h Q ↔ wp 104 32 [l0, .inl x, l2] [.inl x, v0, v1] h Q := wp_step dL_refusesAny_31 (fun _ => rfl)
theorem s104_32  : wp 104 32 [l0, l1, l2] [.inl x, v0, v1] h Q ↔ if x = 0 then wp 104 35 [l0, l1, l2] [v0, v1] h Q else wp 104 40 [l0, l1, l2] [v0, v1] h Q := w_ne0 dL_refusesAny_32 (by decide)
theorem s104_35  : wp 104 35 [l0, l1, l2] [v0, v1] h Q ↔ wp 104 37 [l0, l1, l2] [.inl 74, v0, v1] h Q := w_const2 dL_refusesAny_35 k_74 k8_74
theorem s104_37  : wp 104 37 [l0, l1, l2] [v0, v1, v2] h Q ↔ wp 104 42 [l0, l1, l2] [v0, v1, v2] h Q := w_goto dL_refusesAny_37 (by decide)
theorem s104_40  : wp 104 40 [l0, l1, l2] [v0, v1] h Q ↔ wp 104 42 [l0, l1, l2] [.inl 100, v0, v1] h Q := w_const2 dL_refusesAny_40 k_100 k8_100
theorem s104_42  : wp 104 42 [l0, l1, l2] [.inl x1, .inl x0, .inr (.inl (8 + G.length))] (em G W (hp S D)) Q ↔ wp 68 0 [.inr (.inl (8 + G.length)), .inl x0, .inl x1, .inr (.inl 0)] [] (em G W (hp S D)) (kont 104 45 [l0, l1, l2] [] Q) := w_callVh (y2 := 68) (vs := [.inl x0, .inl x1]) (st := []) dL_refusesAny_42 (by decide +kernel) rfl (by decide +kernel) (Nat.le_of_ble_eq_true rfl) (eSm_4 (by simp)) 7 rfl em_o rfl (by omega)
theorem s104_45  : wp 104 45 [l0, l1, l2] [v0] h Q ↔ wp 104 47 [l0, l1, l2] [.inl (-2), v0] h Q := w_const2 dL_refusesAny_45 k_m2 k8_m2
theorem s104_47  : wp 104 47 [l0, l1, l2] [.inl z, .inl x] h Q ↔ if x = z then wp 104 50 [l0, l1, l2] [] h Q else wp 104 198 [l0, l1, l2] [] h Q := w_cne dL_refusesAny_47 (by decide)
theorem s104_50 (h0 : a ≠ 0) : wp 104 50 [.inr (.inl a), l1, l2] [] h Q ↔ wp 104 51 [.inr (.inl a), l1, l2] [.inr (.inl a)] h Q := wp_step dL_refusesAny_50 (fun _ => if_neg h0)
theorem s104_51  : wp 104 51 [l0, l1, l2] [v0] h Q ↔ wp 104 52 [l0, l1, l2] [.inl 1, v0] h Q := w_const1 dL_refusesAny_51 k_1
theorem s104_52  : wp 104 52 [l0, .inl x, l2] [v0, v1] h Q ↔ wp 104 53 [l0, .inl x, l2] [.inl x, v0, v1] h Q := wp_step dL_refusesAny_52 (fun _ => rfl)
theorem s104_53  : wp 104 53 [l0, l1, l2] [.inl x, v0, v1] h Q ↔ if x = 0 then wp 104 56 [l0, l1, l2] [v0, v1] h Q else wp 104 60 [l0, l1, l2] [v0, v1] h Q := w_ne0 dL_refusesAny_53 (by decide)
theorem s104_56  : wp 104 56 [l0, l1, l2] [v0, v1] h Q ↔ wp 104 57 [l0, l1, l2] [.inl 0, v0, v1] h Q := w_const1 dL_refusesAny_56 k_0
theorem s104_57  : wp 104 57 [l0, l1, l2] [v0, v1, v2] h Q ↔ wp 104 62 [l0, l1, l2] [v0, v1, v2] h Q := w_goto dL_refusesAny_57 (by decide)
theorem s104_60  : wp 104 60 [l0, l1, l2] [v0, v1] h Q ↔ wp 104 62 [l0, l1, l2] [.inl 6, v0, v1] h Q := w_const2 dL_refusesAny_60 k_6 k8_6
theorem s104_62  : wp 104 62 [l0, l1, l2] [.inl x1, .inl x0, .inr (.inl (8 + G.length))] (em G W (hp S D)) Q ↔ wp 68 0 [.inr (.inl (8 + G.length)), .inl x0, .inl x1, .inr (.inl 0)] [] (em G W (hp S D)) (kont 104 65 [l0, l1, l2] [] Q) := w_callVh (y2 := 68) (vs := [.inl x0, .inl x1]) (st := []) dL_refusesAny_62 (by decide +kernel) rfl (by decide +kernel) (Nat.le_of_ble_eq_true rfl) (eSm_4 (by simp)) 7 rfl em_o rfl (by omega)
theorem s104_65  : wp 104 65 [l0, l1, l2] [v0] h Q ↔ wp 104 67 [l0, l1, l2] [.inl (-2), v0] h Q := w_const2 dL_refusesAny_65 k_m2 k8_m2
theorem s104_67  : wp 104 67 [l0, l1, l2] [.inl z, .inl x] h Q ↔ if x = z then wp 104 70 [l0, l1, l2] [] h Q else wp 104 198 [l0, l1, l2] [] h Q := w_cne dL_refusesAny_67 (by decide)
theorem s104_70 (h0 : a ≠ 0) : wp 104 70 [.inr (.inl a), l1, l2] [] h Q ↔ wp 104 71 [.inr (.inl a), l1, l2] [.inr (.inl a)] h Q := wp_step dL_refusesAny_70 (fun _ => if_neg h0)
theorem s104_71  : wp 104 71 [l0, l1, l2] [v0] h Q ↔ wp 104 72 [l0, l1, l2] [.inl 2, v0] h Q := w_const1 dL_refusesAny_71 k_2
theorem s104_72  : wp 104 72 [l0, .inl x, l2] [v0, v1] h Q ↔ wp 104 73 [l0, .inl x, l2] [.inl x, v0, v1] h Q := wp_step dL_refusesAny_72 (fun _ => rfl)
theorem s104_73  : wp 104 73 [l0, l1, l2] [.inl x, v0, v1] h Q ↔ if x = 0 then wp 104 76 [l0, l1, l2] [v0, v1] h Q else wp 104 80 [l0, l1, l2] [v0, v1] h Q := w_ne0 dL_refusesAny_73 (by decide)
theorem s104_76  : wp 104 76 [l0, l1, l2] [v0, v1] h Q ↔ wp 104 77 [l0, l1, l2] [.inl 0, v0, v1] h Q := w_const1 dL_refusesAny_76 k_0
theorem s104_77  : wp 104 77 [l0, l1, l2] [v0, v1, v2] h Q ↔ wp 104 82 [l0, l1, l2] [v0, v1, v2] h Q := w_goto dL_refusesAny_77 (by decide)
theorem s104_80  : wp 104 80 [l0, l1, l2] [v0, v1] h Q ↔ wp 104 82 [l0, l1, l2] [.inl 6, v0, v1] h Q := w_const2 dL_refusesAny_80 k_6 k8_6
theorem s104_82  : wp 104 82 [l0, l1, l2] [.inl x1, .inl x0, .inr (.inl (8 + G.length))] (em G W (hp S D)) Q ↔ wp 68 0 [.inr (.inl (8 + G.length)), .inl x0, .inl x1, .inr (.inl 0)] [] (em G W (hp S D)) (kont 104 85 [l0, l1, l2] [] Q) := w_callVh (y2 := 68) (vs := [.inl x0, .inl x1]) (st := []) dL_refusesAny_82 (by decide +kernel) rfl (by decide +kernel) (Nat.le_of_ble_eq_true rfl) (eSm_4 (by simp)) 7 rfl em_o rfl (by omega)
theorem s104_85  : wp 104 85 [l0, l1, l2] [v0] h Q ↔ wp 104 87 [l0, l1, l2] [.inl (-2), v0] h Q := w_const2 dL_refusesAny_85 k_m2 k8_m2
theorem s104_87  : wp 104 87 [l0, l1, l2] [.inl z, .inl x] h Q ↔ if x = z then wp 104 90 [l0, l1, l2] [] h Q else wp 104 198 [l0, l1, l2] [] h Q := w_cne dL_refusesAny_87 (by decide)
theorem s104_90 (h0 : a ≠ 0) : wp 104 90 [.inr (.inl a), l1, l2] [] h Q ↔ wp 104 91 [.inr (.inl a), l1, l2] [.inr (.inl a)] h Q := wp_step dL_refusesAny_90 (fun _ => if_neg h0)
theorem s104_91  : wp 104 91 [l0, l1, l2] [v0] h Q ↔ wp 104 92 [l0, l1, l2] [.inl 3, v0] h Q := w_const1 dL_refusesAny_91 k_3
theorem s104_92  : wp 104 92 [l0, .inl x, l2] [v0, v1] h Q ↔ wp 104 93 [l0, .inl x, l2] [.inl x, v0, v1] h Q := wp_step dL_refusesAny_92 (fun _ => rfl)
theorem s104_93  : wp 104 93 [l0, l1, l2] [.inl x, v0, v1] h Q ↔ if x = 0 then wp 104 96 [l0, l1, l2] [v0, v1] h Q else wp 104 100 [l0, l1, l2] [v0, v1] h Q := w_ne0 dL_refusesAny_93 (by decide)
theorem s104_96  : wp 104 96 [l0, l1, l2] [v0, v1] h Q ↔ wp 104 97 [l0, l1, l2] [.inl (-1), v0, v1] h Q := w_const1 dL_refusesAny_96 k_m1
theorem s104_97  : wp 104 97 [l0, l1, l2] [v0, v1, v2] h Q ↔ wp 104 101 [l0, l1, l2] [v0, v1, v2] h Q := w_goto dL_refusesAny_97 (by decide)
theorem s104_100  : wp 104 100 [l0, l1, l2] [v0, v1] h Q ↔ wp 104 101 [l0, l1, l2] [.inl 2, v0, v1] h Q := w_const1 dL_refusesAny_100 k_2
theorem s104_101  : wp 104 101 [l0, l1, l2] [.inl x1, .inl x0, .inr (.inl (8 + G.length))] (em G W (hp S D)) Q ↔ wp 68 0 [.inr (.inl (8 + G.length)), .inl x0, .inl x1, .inr (.inl 0)] [] (em G W (hp S D)) (kont 104 104 [l0, l1, l2] [] Q) := w_callVh (y2 := 68) (vs := [.inl x0, .inl x1]) (st := []) dL_refusesAny_101 (by decide +kernel) rfl (by decide +kernel) (Nat.le_of_ble_eq_true rfl) (eSm_4 (by simp)) 7 rfl em_o rfl (by omega)
theorem s104_104  : wp 104 104 [l0, l1, l2] [v0] h Q ↔ wp 104 106 [l0, l1, l2] [.inl (-2), v0] h Q := w_const2 dL_refusesAny_104 k_m2 k8_m2
theorem s104_106  : wp 104 106 [l0, l1, l2] [.inl z, .inl x] h Q ↔ if x = z then wp 104 109 [l0, l1, l2] [] h Q else wp 104 198 [l0, l1, l2] [] h Q := w_cne dL_refusesAny_106 (by decide)
theorem s104_109 (h0 : a ≠ 0) : wp 104 109 [.inr (.inl a), l1, l2] [] h Q ↔ wp 104 110 [.inr (.inl a), l1, l2] [.inr (.inl a)] h Q := wp_step dL_refusesAny_109 (fun _ => if_neg h0)
theorem s104_110  : wp 104 110 [l0, .inl x, l2] [v0] h Q ↔ wp 104 111 [l0, .inl x, l2] [.inl x, v0] h Q := wp_step dL_refusesAny_110 (fun _ => rfl)
theorem s104_111 (h0 : a ≠ 0) : wp 104 111 [.inr (.inl a), l1, l2] [v0, v1] h Q ↔ wp 104 112 [.inr (.inl a), l1, l2] [.inr (.inl a), v0, v1] h Q := wp_step dL_refusesAny_111 (fun _ => if_neg h0)
theorem s104_112  : wp 104 112 [l0, .inl x, l2] [v0, v1, v2] h Q ↔ wp 104 113 [l0, .inl x, l2] [.inl x, v0, v1, v2] h Q := wp_step dL_refusesAny_112 (fun _ => rfl)
theorem s104_113  : wp 104 113 [l0, l1, l2] [.inl x0, .inr (.inl (8 + G.length)), v0, v1] (em G W (hp S D)) Q ↔ wp 90 0 [.inr (.inl (8 + G.length)), .inl x0] [] (em G W (hp S D)) (kont 104 116 [l0, l1, l2] [v0, v1] Q) := w_callVh (y2 := 90) (vs := [.inl x0]) (st := [v0, v1]) dL_refusesAny_113 (by decide +kernel) rfl (by decide +kernel) (Nat.le_of_ble_eq_true rfl) (eSm_4 (by simp)) 7 rfl em_o rfl (by omega)
theorem s104_116  : wp 104 116 [l0, l1, l2] [.inl x1, .inl x0, .inr (.inl (8 + G.length))] (em G W (hp S D)) Q ↔ wp 68 0 [.inr (.inl (8 + G.length)), .inl x0, .inl x1, .inr (.inl 0)] [] (em G W (hp S D)) (kont 104 119 [l0, l1, l2] [] Q) := w_callVh (y2 := 68) (vs := [.inl x0, .inl x1]) (st := []) dL_refusesAny_116 (by decide +kernel) rfl (by decide +kernel) (Nat.le_of_ble_eq_true rfl) (eSm_4 (by simp)) 7 rfl em_o rfl (by omega)
theorem s104_119  : wp 104 119 [l0, l1, l2] [v0] h Q ↔ wp 104 121 [l0, l1, l2] [.inl (-5), v0] h Q := w_const2 dL_refusesAny_119 k_m5 k8_m5
theorem s104_121  : wp 104 121 [l0, l1, l2] [.inl z, .inl x] h Q ↔ if x = z then wp 104 124 [l0, l1, l2] [] h Q else wp 104 198 [l0, l1, l2] [] h Q := w_cne dL_refusesAny_121 (by decide)
theorem s104_124 (h0 : a ≠ 0) : wp 104 124 [.inr (.inl a), l1, l2] [] h Q ↔ wp 104 125 [.inr (.inl a), l1, l2] [.inr (.inl a)] h Q := wp_step dL_refusesAny_124 (fun _ => if_neg h0)
theorem s104_125  : wp 104 125 [l0, .inl x, l2] [v0] h Q ↔ wp 104 126 [l0, .inl x, l2] [.inl x, v0] h Q := wp_step dL_refusesAny_125 (fun _ => rfl)
theorem s104_126  : wp 104 126 [l0, l1, l2] [.inl x, v0] h Q ↔ if x = 0 then wp 104 129 [l0, l1, l2] [v0] h Q else wp 104 133 [l0, l1, l2] [v0] h Q := w_ne0 dL_refusesAny_126 (by decide)
theorem s104_129  : wp 104 129 [l0, l1, l2] [v0] h Q ↔ wp 104 130 [l0, l1, l2] [.inl (-1), v0] h Q := w_const1 dL_refusesAny_129 k_m1
theorem s104_130  : wp 104 130 [l0, l1, l2] [v0, v1] h Q ↔ wp 104 135 [l0, l1, l2] [v0, v1] h Q := w_goto dL_refusesAny_130 (by decide)
theorem s104_133  : wp 104 133 [l0, l1, l2] [v0] h Q ↔ wp 104 135 [l0, l1, l2] [.inl 48, v0] h Q := w_const2 dL_refusesAny_133 k_48 k8_48
theorem s104_135  : wp 104 135 [l0, l1, l2] [v0, v1] h Q ↔ wp 104 136 [l0, l1, l2] [.inl 3, v0, v1] h Q := w_const1 dL_refusesAny_135 k_3
theorem s104_136  : wp 104 136 [l0, l1, l2] [.inl x1, .inl x0, .inr (.inl (8 + G.length))] (em G W (hp S D)) Q ↔ wp 69 0 [.inr (.inl (8 + G.length)), .inl x0, .inl x1] [] (em G W (hp S D)) (kont 104 139 [l0, l1, l2] [] Q) := w_callVh (y2 := 69) (vs := [.inl x0, .inl x1]) (st := []) dL_refusesAny_136 (by decide +kernel) rfl (by decide +kernel) (Nat.le_of_ble_eq_true rfl) (eSm_4 (by simp)) 7 rfl em_o rfl (by omega)
theorem s104_139  : wp 104 139 [l0, l1, l2] [v0] h Q ↔ wp 104 141 [l0, l1, l2] [.inl (-2), v0] h Q := w_const2 dL_refusesAny_139 k_m2 k8_m2
theorem s104_141  : wp 104 141 [l0, l1, l2] [.inl z, .inl x] h Q ↔ if x = z then wp 104 144 [l0, l1, l2] [] h Q else wp 104 198 [l0, l1, l2] [] h Q := w_cne dL_refusesAny_141 (by decide)
theorem s104_144 (h0 : a ≠ 0) : wp 104 144 [.inr (.inl a), l1, l2] [] h Q ↔ wp 104 145 [.inr (.inl a), l1, l2] [.inr (.inl a)] h Q := wp_step dL_refusesAny_144 (fun _ => if_neg h0)
theorem s104_145  : wp 104 145 [l0, l1, l2] [v0] h Q ↔ wp 104 146 [l0, l1, l2] [.inl 3, v0] h Q := w_const1 dL_refusesAny_145 k_3
theorem s104_146  : wp 104 146 [l0, .inl x, l2] [v0, v1] h Q ↔ wp 104 147 [l0, .inl x, l2] [.inl x, v0, v1] h Q := wp_step dL_refusesAny_146 (fun _ => rfl)
theorem s104_147  : wp 104 147 [l0, l1, l2] [.inl x, v0, v1] h Q ↔ if x = 0 then wp 104 150 [l0, l1, l2] [v0, v1] h Q else wp 104 154 [l0, l1, l2] [v0, v1] h Q := w_ne0 dL_refusesAny_147 (by decide)
theorem s104_150  : wp 104 150 [l0, l1, l2] [v0, v1] h Q ↔ wp 104 151 [l0, l1, l2] [.inl (-1), v0, v1] h Q := w_const1 dL_refusesAny_150 k_m1
theorem s104_151  : wp 104 151 [l0, l1, l2] [v0, v1, v2] h Q ↔ wp 104 156 [l0, l1, l2] [v0, v1, v2] h Q := w_goto dL_refusesAny_151 (by decide)
theorem s104_154  : wp 104 154 [l0, l1, l2] [v0, v1] h Q ↔ wp 104 156 [l0, l1, l2] [.inl 48, v0, v1] h Q := w_const2 dL_refusesAny_154 k_48 k8_48
theorem s104_156  : wp 104 156 [l0, l1, l2] [.inl x1, .inl x0, .inr (.inl (8 + G.length))] (em G W (hp S D)) Q ↔ wp 69 0 [.inr (.inl (8 + G.length)), .inl x0, .inl x1] [] (em G W (hp S D)) (kont 104 159 [l0, l1, l2] [] Q) := w_callVh (y2 := 69) (vs := [.inl x0, .inl x1]) (st := []) dL_refusesAny_156 (by decide +kernel) rfl (by decide +kernel) (Nat.le_of_ble_eq_true rfl) (eSm_4 (by simp)) 7 rfl em_o rfl (by omega)
theorem s104_159  : wp 104 159 [l0, l1, l2] [v0] h Q ↔ wp 104 161 [l0, l1, l2] [.inl (-2), v0] h Q := w_const2 dL_refusesAny_159 k_m2 k8_m2
theorem s104_161  : wp 104 161 [l0, l1, l2] [.inl z, .inl x] h Q ↔ if x = z then wp 104 164 [l0, l1, l2] [] h Q else wp 104 198 [l0, l1, l2] [] h Q := w_cne dL_refusesAny_161 (by decide)
theorem s104_164 (h0 : a ≠ 0) : wp 104 164 [.inr (.inl a), l1, l2] [] h Q ↔ wp 104 165 [.inr (.inl a), l1, l2] [.inr (.inl a)] h Q := wp_step dL_refusesAny_164 (fun _ => if_neg h0)
theorem s104_165  : wp 104 165 [l0, l1, l2] [v0] h Q ↔ wp 104 167 [l0, l1, l2] [.inl 7, v0] h Q := w_const2 dL_refusesAny_165 k_7 k8_7
theorem s104_167  : wp 104 167 [l0, l1, l2] [v0, v1] h Q ↔ wp 104 169 [l0, l1, l2] [.inl 7, v0, v1] h Q := w_const2 dL_refusesAny_167 k_7 k8_7
theorem s104_169  : wp 104 169 [l0, l1, l2] [.inl x1, .inl x0, .inr (.inl (8 + G.length))] (em G W (hp S D)) Q ↔ wp 69 0 [.inr (.inl (8 + G.length)), .inl x0, .inl x1] [] (em G W (hp S D)) (kont 104 172 [l0, l1, l2] [] Q) := w_callVh (y2 := 69) (vs := [.inl x0, .inl x1]) (st := []) dL_refusesAny_169 (by decide +kernel) rfl (by decide +kernel) (Nat.le_of_ble_eq_true rfl) (eSm_4 (by simp)) 7 rfl em_o rfl (by omega)
theorem s104_172  : wp 104 172 [l0, l1, l2] [v0] h Q ↔ wp 104 174 [l0, l1, l2] [.inl (-2), v0] h Q := w_const2 dL_refusesAny_172 k_m2 k8_m2
theorem s104_174  : wp 104 174 [l0, l1, l2] [.inl z, .inl x] h Q ↔ if x = z then wp 104 177 [l0, l1, l2] [] h Q else wp 104 198 [l0, l1, l2] [] h Q := w_cne dL_refusesAny_174 (by decide)
theorem s104_177 (h0 : a ≠ 0) : wp 104 177 [.inr (.inl a), l1, l2] [] h Q ↔ wp 104 178 [.inr (.inl a), l1, l2] [.inr (.inl a)] h Q := wp_step dL_refusesAny_177 (fun _ => if_neg h0)
theorem s104_178 (h0 : a ≠ 0) : wp 104 178 [.inr (.inl a), l1, l2] [v0] h Q ↔ wp 104 179 [.inr (.inl a), l1, l2] [.inr (.inl a), v0] h Q := wp_step dL_refusesAny_178 (fun _ => if_neg h0)
theorem s104_179  : wp 104 179 [l0, l1, l2] [v0, v1] h Q ↔ wp 104 181 [l0, l1, l2] [.inl 6, v0, v1] h Q := w_const2 dL_refusesAny_179 k_6 k8_6
theorem s104_181  : wp 104 181 [l0, l1, l2] [.inl x0, .inr (.inl (8 + G.length)), v0] (em G W (hp S D)) Q ↔ wp 83 0 [.inr (.inl (8 + G.length)), .inl x0] [] (em G W (hp S D)) (kont 104 184 [l0, l1, l2] [v0] Q) := w_callVh (y2 := 83) (vs := [.inl x0]) (st := [v0]) dL_refusesAny_181 (by decide +kernel) rfl (by decide +kernel) (Nat.le_of_ble_eq_true rfl) (eSm_4 (by simp)) 7 rfl em_o rfl (by omega)
theorem s104_184 (h0 : a ≠ 0) : wp 104 184 [.inr (.inl a), l1, l2] [v0, v1] h Q ↔ wp 104 185 [.inr (.inl a), l1, l2] [.inr (.inl a), v0, v1] h Q := wp_step dL_refusesAny_184 (fun _ => if_neg h0)
theorem s104_185  : wp 104 185 [l0, l1, l2] [v0, v1, v2] h Q ↔ wp 104 187 [l0, l1, l2] [.inl 7, v0, v1, v2] h Q := w_const2 dL_refusesAny_185 k_7 k8_7
theorem s104_187  : wp 104 187 [l0, l1, l2] [.inl x0, .inr (.inl (8 + G.length)), v0, v1] (em G W (hp S D)) Q ↔ wp 83 0 [.inr (.inl (8 + G.length)), .inl x0] [] (em G W (hp S D)) (kont 104 190 [l0, l1, l2] [v0, v1] Q) := w_callVh (y2 := 83) (vs := [.inl x0]) (st := [v0, v1]) dL_refusesAny_187 (by decide +kernel) rfl (by decide +kernel) (Nat.le_of_ble_eq_true rfl) (eSm_4 (by simp)) 7 rfl em_o rfl (by omega)
theorem s104_190  : wp 104 190 [l0, l1, l2] [.inl x1, .inl x0, .inr (.inl (8 + G.length))] (em G W (hp S D)) Q ↔ wp 69 0 [.inr (.inl (8 + G.length)), .inl x0, .inl x1] [] (em G W (hp S D)) (kont 104 193 [l0, l1, l2] [] Q) := w_callVh (y2 := 69) (vs := [.inl x0, .inl x1]) (st := []) dL_refusesAny_190 (by decide +kernel) rfl (by decide +kernel) (Nat.le_of_ble_eq_true rfl) (eSm_4 (by simp)) 7 rfl em_o rfl (by omega)
theorem s104_193  : wp 104 193 [l0, l1, l2] [v0] h Q ↔ wp 104 195 [l0, l1, l2] [.inl (-5), v0] h Q := w_const2 dL_refusesAny_193 k_m5 k8_m5
theorem s104_195  : wp 104 195 [l0, l1, l2] [.inl z, .inl x] h Q ↔ if x = z then wp 104 200 [l0, l1, l2] [] h Q else wp 104 198 [l0, l1, l2] [] h Q := w_ceq dL_refusesAny_195 (by decide)
theorem s104_198  : wp 104 198 [l0, l1, l2] [] h Q ↔ wp 104 199 [l0, l1, l2] [.inl 0] h Q := w_const1 dL_refusesAny_198 k_0
theorem s104_199 (h0 : x = 0 ∨ x = 1) : wp 104 199 [l0, l1, l2] [.inl x] h Q ↔ Q (some (.inl x)) h := w_reti dL_refusesAny_199 (e_rz (by decide +kernel) h0)
theorem s104_200 (h0 : a ≠ 0) : wp 104 200 [.inr (.inl a), l1, l2] [] h Q ↔ wp 104 201 [.inr (.inl a), l1, l2] [.inr (.inl a)] h Q := wp_step dL_refusesAny_200 (fun _ => if_neg h0)
theorem s104_201  : wp 104 201 [l0, l1, .inl x] [v0] h Q ↔ wp 104 202 [l0, l1, .inl x] [.inl x, v0] h Q := wp_step dL_refusesAny_201 (fun _ => rfl)
theorem s104_202  : wp 104 202 [l0, l1, l2] [v0, v1] h Q ↔ wp 104 204 [l0, l1, l2] [.inl 9, v0, v1] h Q := w_const2 dL_refusesAny_202 k_9 k8_9
theorem s104_204  : wp 104 204 [l0, l1, l2] [v0, v1, v2] h Q ↔ wp 104 206 [l0, l1, l2] [.inl 9, v0, v1, v2] h Q := w_const2 dL_refusesAny_204 k_9 k8_9
theorem s104_206  : wp 104 206 [l0, l1, l2] [.inl x2, .inl x1, .inl x0, .inr (.inl (8 + G.length))] (em G W (hp S D)) Q ↔ wp 70 0 [.inr (.inl (8 + G.length)), .inl x0, .inl x1, .inl x2, .inr (.inl 0)] [] (em G W (hp S D)) (kont 104 209 [l0, l1, l2] [] Q) := w_callVh (y2 := 70) (vs := [.inl x0, .inl x1, .inl x2]) (st := []) dL_refusesAny_206 (by decide +kernel) rfl (by decide +kernel) (Nat.le_of_ble_eq_true rfl) (eSm_4 (by simp)) 7 rfl em_o rfl (by omega)
theorem s104_209  : wp 104 209 [l0, l1, l2] [v0] h Q ↔ wp 104 210 [l0, l1, l2] [.inl (-1), v0] h Q := w_const1 dL_refusesAny_209 k_m1
theorem s104_210  : wp 104 210 [l0, l1, l2] [.inl z, .inl x] h Q ↔ if x = z then wp 104 213 [l0, l1, l2] [] h Q else wp 104 426 [l0, l1, l2] [] h Q := w_cne dL_refusesAny_210 (by decide)
theorem s104_213 (h0 : a ≠ 0) : wp 104 213 [.inr (.inl a), l1, l2] [] h Q ↔ wp 104 214 [.inr (.inl a), l1, l2] [.inr (.inl a)] h Q := wp_step dL_refusesAny_213 (fun _ => if_neg h0)
theorem s104_214  : wp 104 214 [l0, l1, l2] [v0] h Q ↔ wp 104 215 [l0, l1, l2] [.inl 0, v0] h Q := w_const1 dL_refusesAny_214 k_0
theorem s104_215  : wp 104 215 [l0, .inl x, l2] [v0, v1] h Q ↔ wp 104 216 [l0, .inl x, l2] [.inl x, v0, v1] h Q := wp_step dL_refusesAny_215 (fun _ => rfl)
theorem s104_216  : wp 104 216 [l0, l1, l2] [.inl x, v0, v1] h Q ↔ if x = 0 then wp 104 219 [l0, l1, l2] [v0, v1] h Q else wp 104 223 [l0, l1, l2] [v0, v1] h Q := w_ne0 dL_refusesAny_216 (by decide)
theorem s104_219  : wp 104 219 [l0, l1, l2] [v0, v1] h Q ↔ wp 104 220 [l0, l1, l2] [.inl (-1), v0, v1] h Q := w_const1 dL_refusesAny_219 k_m1
theorem s104_220  : wp 104 220 [l0, l1, l2] [v0, v1, v2] h Q ↔ wp 104 224 [l0, l1, l2] [v0, v1, v2] h Q := w_goto dL_refusesAny_220 (by decide)
theorem s104_223  : wp 104 223 [l0, l1, l2] [v0, v1] h Q ↔ wp 104 224 [l0, l1, l2] [.inl 3, v0, v1] h Q := w_const1 dL_refusesAny_223 k_3
theorem s104_224  : wp 104 224 [l0, l1, l2] [v0, v1, v2] h Q ↔ wp 104 226 [l0, l1, l2] [.inl 100, v0, v1, v2] h Q := w_const2 dL_refusesAny_224 k_100 k8_100
theorem s104_226  : wp 104 226 [l0, l1, l2] [.inl x2, .inl x1, .inl x0, .inr (.inl (8 + G.length))] (em G W (hp S D)) Q ↔ wp 70 0 [.inr (.inl (8 + G.length)), .inl x0, .inl x1, .inl x2, .inr (.inl 0)] [] (em G W (hp S D)) (kont 104 229 [l0, l1, l2] [] Q) := w_callVh (y2 := 70) (vs := [.inl x0, .inl x1, .inl x2]) (st := []) dL_refusesAny_226 (by decide +kernel) rfl (by decide +kernel) (Nat.le_of_ble_eq_true rfl) (eSm_4 (by simp)) 7 rfl em_o rfl (by omega)
theorem s104_229  : wp 104 229 [l0, l1, l2] [v0] h Q ↔ wp 104 231 [l0, l1, l2] [.inl (-2), v0] h Q := w_const2 dL_refusesAny_229 k_m2 k8_m2
theorem s104_231  : wp 104 231 [l0, l1, l2] [.inl z, .inl x] h Q ↔ if x = z then wp 104 234 [l0, l1, l2] [] h Q else wp 104 426 [l0, l1, l2] [] h Q := w_cne dL_refusesAny_231 (by decide)
theorem s104_234 (h0 : a ≠ 0) : wp 104 234 [.inr (.inl a), l1, l2] [] h Q ↔ wp 104 235 [.inr (.inl a), l1, l2] [.inr (.inl a)] h Q := wp_step dL_refusesAny_234 (fun _ => if_neg h0)
theorem s104_235  : wp 104 235 [l0, l1, l2] [v0] h Q ↔ wp 104 236 [l0, l1, l2] [.inl 0, v0] h Q := w_const1 dL_refusesAny_235 k_0
theorem s104_236  : wp 104 236 [l0, l1, l2] [v0, v1] h Q ↔ wp 104 237 [l0, l1, l2] [.inl 0, v0, v1] h Q := w_const1 dL_refusesAny_236 k_0
theorem s104_237  : wp 104 237 [l0, .inl x, l2] [v0, v1, v2] h Q ↔ wp 104 238 [l0, .inl x, l2] [.inl x, v0, v1, v2] h Q := wp_step dL_refusesAny_237 (fun _ => rfl)
theorem s104_238  : wp 104 238 [l0, l1, l2] [.inl x, v0, v1, v2] h Q ↔ if x = 0 then wp 104 241 [l0, l1, l2] [v0, v1, v2] h Q else wp 104 246 [l0, l1, l2] [v0, v1, v2] h Q := w_ne0 dL_refusesAny_238 (by decide)
theorem s104_241  : wp 104 241 [l0, l1, l2] [v0, v1, v2] h Q ↔ wp 104 243 [l0, l1, l2] [.inl 49, v0, v1, v2] h Q := w_const2 dL_refusesAny_241 k_49 k8_49
theorem s104_243  : wp 104 243 [l0, l1, l2] [v0, v1, v2, v3] h Q ↔ wp 104 249 [l0, l1, l2] [v0, v1, v2, v3] h Q := w_goto dL_refusesAny_243 (by decide)
theorem s104_246  : wp 104 246 [l0, l1, l2] [v0, v1, v2] h Q ↔ wp 104 249 [l0, l1, l2] [.inl 151, v0, v1, v2] h Q := w_const3 dL_refusesAny_246 k_151 k16_151
theorem s104_249  : wp 104 249 [l0, l1, l2] [.inl x2, .inl x1, .inl x0, .inr (.inl (8 + G.length))] (em G W (hp S D)) Q ↔ wp 70 0 [.inr (.inl (8 + G.length)), .inl x0, .inl x1, .inl x2, .inr (.inl 0)] [] (em G W (hp S D)) (kont 104 252 [l0, l1, l2] [] Q) := w_callVh (y2 := 70) (vs := [.inl x0, .inl x1, .inl x2]) (st := []) dL_refusesAny_249 (by decide +kernel) rfl (by decide +kernel) (Nat.le_of_ble_eq_true rfl) (eSm_4 (by simp)) 7 rfl em_o rfl (by omega)
theorem s104_252  : wp 104 252 [l0, l1, l2] [v0] h Q ↔ wp 104 254 [l0, l1, l2] [.inl (-2), v0] h Q := w_const2 dL_refusesAny_252 k_m2 k8_m2
theorem s104_254  : wp 104 254 [l0, l1, l2] [.inl z, .inl x] h Q ↔ if x = z then wp 104 257 [l0, l1, l2] [] h Q else wp 104 426 [l0, l1, l2] [] h Q := w_cne dL_refusesAny_254 (by decide)
theorem s104_257 (h0 : a ≠ 0) : wp 104 257 [.inr (.inl a), l1, l2] [] h Q ↔ wp 104 258 [.inr (.inl a), l1, l2] [.inr (.inl a)] h Q := wp_step dL_refusesAny_257 (fun _ => if_neg h0)
theorem s104_258  : wp 104 258 [l0, l1, .inl x] [v0] h Q ↔ wp 104 259 [l0, l1, .inl x] [.inl x, v0] h Q := wp_step dL_refusesAny_258 (fun _ => rfl)
theorem s104_259  : wp 104 259 [l0, l1, l2] [.inl x0, .inr (.inl (8 + G.length))] (em G W (hp S D)) Q ↔ wp 71 0 [.inr (.inl (8 + G.length)), .inl x0, .inr (.inl 0), .inr (.inl 0)] [] (em G W (hp S D)) (kont 104 262 [l0, l1, l2] [] Q) := w_callVh (y2 := 71) (vs := [.inl x0]) (st := []) dL_refusesAny_259 (by decide +kernel) rfl (by decide +kernel) (Nat.le_of_ble_eq_true rfl) (eSm_4 (by simp)) 7 rfl em_o rfl (by omega)
theorem s104_262  : wp 104 262 [l0, l1, l2] [v0] h Q ↔ wp 104 263 [l0, l1, l2] [.inl (-1), v0] h Q := w_const1 dL_refusesAny_262 k_m1
theorem s104_263  : wp 104 263 [l0, l1, l2] [.inl z, .inl x] h Q ↔ if x = z then wp 104 266 [l0, l1, l2] [] h Q else wp 104 426 [l0, l1, l2] [] h Q := w_cne dL_refusesAny_263 (by decide)
theorem s104_266 (h0 : a ≠ 0) : wp 104 266 [.inr (.inl a), l1, l2] [] h Q ↔ wp 104 267 [.inr (.inl a), l1, l2] [.inr (.inl a)] h Q := wp_step dL_refusesAny_266 (fun _ => if_neg h0)
theorem s104_267  : wp 104 267 [l0, l1, .inl x] [v0] h Q ↔ wp 104 268 [l0, l1, .inl x] [.inl x, v0] h Q := wp_step dL_refusesAny_267 (fun _ => rfl)
theorem s104_268  : wp 104 268 [l0, l1, l2] [.inl x0, .inr (.inl (8 + G.length))] (em G W (hp S D)) Q ↔ wp 72 0 [.inr (.inl (8 + G.length)), .inl x0] [] (em G W (hp S D)) (kont 104 271 [l0, l1, l2] [] Q) := w_callVh (y2 := 72) (vs := [.inl x0]) (st := []) dL_refusesAny_268 (by decide +kernel) rfl (by decide +kernel) (Nat.le_of_ble_eq_true rfl) (eSm_4 (by simp)) 7 rfl em_o rfl (by omega)
theorem s104_271  : wp 104 271 [l0, l1, l2] [v0] h Q ↔ wp 104 272 [l0, l1, l2] [.inl (-1), v0] h Q := w_const1 dL_refusesAny_271 k_m1
theorem s104_272  : wp 104 272 [l0, l1, l2] [.inl z, .inl x] h Q ↔ if x = z then wp 104 275 [l0, l1, l2] [] h Q else wp 104 426 [l0, l1, l2] [] h Q := w_cne dL_refusesAny_272 (by decide)
theorem s104_275 (h0 : a ≠ 0) : wp 104 275 [.inr (.inl a), l1, l2] [] h Q ↔ wp 104 276 [.inr (.inl a), l1, l2] [.inr (.inl a)] h Q := wp_step dL_refusesAny_275 (fun _ => if_neg h0)
theorem s104_276 (h0 : a ≠ 0) : wp 104 276 [.inr (.inl a), l1, l2] [v0] h Q ↔ wp 104 277 [.inr (.inl a), l1, l2] [.inr (.inl a), v0] h Q := wp_step dL_refusesAny_276 (fun _ => if_neg h0)
theorem s104_277  : wp 104 277 [l0, l1, l2] [v0, v1] h Q ↔ wp 104 278 [l0, l1, l2] [.inl 0, v0, v1] h Q := w_const1 dL_refusesAny_277 k_0
theorem s104_278  : wp 104 278 [l0, l1, l2] [.inl x0, .inr (.inl (8 + G.length)), v0] (em G W (hp S D)) Q ↔ wp 83 0 [.inr (.inl (8 + G.length)), .inl x0] [] (em G W (hp S D)) (kont 104 281 [l0, l1, l2] [v0] Q) := w_callVh (y2 := 83) (vs := [.inl x0]) (st := [v0]) dL_refusesAny_278 (by decide +kernel) rfl (by decide +kernel) (Nat.le_of_ble_eq_true rfl) (eSm_4 (by simp)) 7 rfl em_o rfl (by omega)
theorem s104_281  : wp 104 281 [l0, l1, l2] [.inl x0, .inr (.inl (8 + G.length))] (em G W (hp S D)) Q ↔ wp 72 0 [.inr (.inl (8 + G.length)), .inl x0] [] (em G W (hp S D)) (kont 104 284 [l0, l1, l2] [] Q) := w_callVh (y2 := 72) (vs := [.inl x0]) (st := []) dL_refusesAny_281 (by decide +kernel) rfl (by decide +kernel) (Nat.le_of_ble_eq_true rfl) (eSm_4 (by simp)) 7 rfl em_o rfl (by omega)
theorem s104_284 (h0 : a ≠ 0) : wp 104 284 [.inr (.inl a), l1, l2] [v0] h Q ↔ wp 104 285 [.inr (.inl a), l1, l2] [.inr (.inl a), v0] h Q := wp_step dL_refusesAny_284 (fun _ => if_neg h0)
theorem s104_285  : wp 104 285 [l0, l1, l2] [v0, v1] h Q ↔ wp 104 286 [l0, l1, l2] [.inl 1, v0, v1] h Q := w_const1 dL_refusesAny_285 k_1
theorem s104_286  : wp 104 286 [l0, l1, l2] [.inl x0, .inr (.inl (8 + G.length)), v0] (em G W (hp S D)) Q ↔ wp 83 0 [.inr (.inl (8 + G.length)), .inl x0] [] (em G W (hp S D)) (kont 104 289 [l0, l1, l2] [v0] Q) := w_callVh (y2 := 83) (vs := [.inl x0]) (st := [v0]) dL_refusesAny_286 (by decide +kernel) rfl (by decide +kernel) (Nat.le_of_ble_eq_true rfl) (eSm_4 (by simp)) 7 rfl em_o rfl (by omega)
theorem s104_289  : wp 104 289 [l0, l1, l2] [v0, v1] h Q ↔ wp 104 291 [l0, l1, l2] [.inl (-5), v0, v1] h Q := w_const2 dL_refusesAny_289 k_m5 k8_m5
theorem s104_291  : wp 104 291 [l0, l1, l2] [.inl z, .inl x, v0] h Q ↔ if x = z then wp 104 294 [l0, l1, l2] [v0] h Q else wp 104 299 [l0, l1, l2] [v0] h Q := w_cne dL_refusesAny_291 (by decide)
theorem s104_294  : wp 104 294 [l0, l1, l2] [v0] h Q ↔ wp 104 296 [l0, l1, l2] [.inl (-5), v0] h Q := w_const2 dL_refusesAny_294 k_m5 k8_m5
theorem s104_296  : wp 104 296 [l0, l1, l2] [v0, v1] h Q ↔ wp 104 301 [l0, l1, l2] [v0, v1] h Q := w_goto dL_refusesAny_296 (by decide)
theorem s104_299  : wp 104 299 [l0, l1, l2] [v0] h Q ↔ wp 104 301 [l0, l1, l2] [.inl (-4), v0] h Q := w_const2 dL_refusesAny_299 k_m4 k8_m4
theorem s104_301  : wp 104 301 [l0, l1, l2] [.inl z, .inl x] h Q ↔ if x = z then wp 104 304 [l0, l1, l2] [] h Q else wp 104 426 [l0, l1, l2] [] h Q := w_cne dL_refusesAny_301 (by decide)
theorem s104_304 (h0 : a ≠ 0) : wp 104 304 [.inr (.inl a), l1, l2] [] h Q ↔ wp 104 305 [.inr (.inl a), l1, l2] [.inr (.inl a)] h Q := wp_step dL_refusesAny_304 (fun _ => if_neg h0)
theorem s104_305  : wp 104 305 [l0, .inl x, l2] [v0] h Q ↔ wp 104 306 [l0, .inl x, l2] [.inl x, v0] h Q := wp_step dL_refusesAny_305 (fun _ => rfl)
theorem s104_306  : wp 104 306 [l0, l1, l2] [.inl x, v0] h Q ↔ if x = 0 then wp 104 309 [l0, l1, l2] [v0] h Q else wp 104 313 [l0, l1, l2] [v0] h Q := w_ne0 dL_refusesAny_306 (by decide)
theorem s104_309  : wp 104 309 [l0, l1, l2] [v0] h Q ↔ wp 104 310 [l0, l1, l2] [.inl (-1), v0] h Q := w_const1 dL_refusesAny_309 k_m1
theorem s104_310  : wp 104 310 [l0, l1, l2] [v0, v1] h Q ↔ wp 104 314 [l0, l1, l2] [v0, v1] h Q := w_goto dL_refusesAny_310 (by decide)
theorem s104_313  : wp 104 313 [l0, l1, l2] [v0] h Q ↔ wp 104 314 [l0, l1, l2] [.inl 3, v0] h Q := w_const1 dL_refusesAny_313 k_3
theorem s104_314  : wp 104 314 [l0, l1, l2] [v0, v1] h Q ↔ wp 104 315 [l0, l1, l2] [.inl 1, v0, v1] h Q := w_const1 dL_refusesAny_314 k_1
theorem s104_315  : wp 104 315 [l0, l1, l2] [.inl x1, .inl x0, .inr (.inl (8 + G.length))] (em G W (hp S D)) Q ↔ wp 73 0 [.inr (.inl (8 + G.length)), .inl x0, .inl x1, .inr (.inl 0)] [] (em G W (hp S D)) (kont 104 318 [l0, l1, l2] [] Q) := w_callVh (y2 := 73) (vs := [.inl x0, .inl x1]) (st := []) dL_refusesAny_315 (by decide +kernel) rfl (by decide +kernel) (Nat.le_of_ble_eq_true rfl) (eSm_4 (by simp)) 7 rfl em_o rfl (by omega)
theorem s104_318  : wp 104 318 [l0, l1, l2] [v0] h Q ↔ wp 104 320 [l0, l1, l2] [.inl (-2), v0] h Q := w_const2 dL_refusesAny_318 k_m2 k8_m2
theorem s104_320  : wp 104 320 [l0, l1, l2] [.inl z, .inl x] h Q ↔ if x = z then wp 104 323 [l0, l1, l2] [] h Q else wp 104 426 [l0, l1, l2] [] h Q := w_cne dL_refusesAny_320 (by decide)
theorem s104_323 (h0 : a ≠ 0) : wp 104 323 [.inr (.inl a), l1, l2] [] h Q ↔ wp 104 324 [.inr (.inl a), l1, l2] [.inr (.inl a)] h Q := wp_step dL_refusesAny_323 (fun _ => if_neg h0)
theorem s104_324  : wp 104 324 [l0, l1, l2] [v0] h Q ↔ wp 104 325 [l0, l1, l2] [.inl 0, v0] h Q := w_const1 dL_refusesAny_324 k_0
theorem s104_325  : wp 104 325 [l0, .inl x, l2] [v0, v1] h Q ↔ wp 104 326 [l0, .inl x, l2] [.inl x, v0, v1] h Q := wp_step dL_refusesAny_325 (fun _ => rfl)
theorem s104_326  : wp 104 326 [l0, l1, l2] [.inl x, v0, v1] h Q ↔ if x = 0 then wp 104 329 [l0, l1, l2] [v0, v1] h Q else wp 104 333 [l0, l1, l2] [v0, v1] h Q := w_ne0 dL_refusesAny_326 (by decide)
theorem s104_329  : wp 104 329 [l0, l1, l2] [v0, v1] h Q ↔ wp 104 330 [l0, l1, l2] [.inl 0, v0, v1] h Q := w_const1 dL_refusesAny_329 k_0
theorem s104_330  : wp 104 330 [l0, l1, l2] [v0, v1, v2] h Q ↔ wp 104 335 [l0, l1, l2] [v0, v1, v2] h Q := w_goto dL_refusesAny_330 (by decide)
theorem s104_333  : wp 104 333 [l0, l1, l2] [v0, v1] h Q ↔ wp 104 335 [l0, l1, l2] [.inl 7, v0, v1] h Q := w_const2 dL_refusesAny_333 k_7 k8_7
theorem s104_335  : wp 104 335 [l0, l1, l2] [.inl x1, .inl x0, .inr (.inl (8 + G.length))] (em G W (hp S D)) Q ↔ wp 73 0 [.inr (.inl (8 + G.length)), .inl x0, .inl x1, .inr (.inl 0)] [] (em G W (hp S D)) (kont 104 338 [l0, l1, l2] [] Q) := w_callVh (y2 := 73) (vs := [.inl x0, .inl x1]) (st := []) dL_refusesAny_335 (by decide +kernel) rfl (by decide +kernel) (Nat.le_of_ble_eq_true rfl) (eSm_4 (by simp)) 7 rfl em_o rfl (by omega)
theorem s104_338  : wp 104 338 [l0, l1, l2] [v0] h Q ↔ wp 104 340 [l0, l1, l2] [.inl (-2), v0] h Q := w_const2 dL_refusesAny_338 k_m2 k8_m2
theorem s104_340  : wp 104 340 [l0, l1, l2] [.inl z, .inl x] h Q ↔ if x = z then wp 104 343 [l0, l1, l2] [] h Q else wp 104 426 [l0, l1, l2] [] h Q := w_cne dL_refusesAny_340 (by decide)
theorem s104_343 (h0 : a ≠ 0) : wp 104 343 [.inr (.inl a), l1, l2] [] h Q ↔ wp 104 344 [.inr (.inl a), l1, l2] [.inr (.inl a)] h Q := wp_step dL_refusesAny_343 (fun _ => if_neg h0)
theorem s104_344  : wp 104 344 [l0, .inl x, l2] [v0] h Q ↔ wp 104 345 [l0, .inl x, l2] [.inl x, v0] h Q := wp_step dL_refusesAny_344 (fun _ => rfl)
theorem s104_345  : wp 104 345 [l0, l1, l2] [.inl x, v0] h Q ↔ if x = 0 then wp 104 348 [l0, l1, l2] [v0] h Q else wp 104 352 [l0, l1, l2] [v0] h Q := w_ne0 dL_refusesAny_345 (by decide)
theorem s104_348  : wp 104 348 [l0, l1, l2] [v0] h Q ↔ wp 104 349 [l0, l1, l2] [.inl (-1), v0] h Q := w_const1 dL_refusesAny_348 k_m1
theorem s104_349  : wp 104 349 [l0, l1, l2] [v0, v1] h Q ↔ wp 104 355 [l0, l1, l2] [v0, v1] h Q := w_goto dL_refusesAny_349 (by decide)
theorem s104_352  : wp 104 352 [l0, l1, l2] [v0] h Q ↔ wp 104 355 [l0, l1, l2] [.inl 10000, v0] h Q := w_const3 dL_refusesAny_352 k_10000 k16_10000
theorem s104_355  : wp 104 355 [l0, l1, l2] [v0, v1] h Q ↔ wp 104 356 [l0, l1, l2] [.inl 0, v0, v1] h Q := w_const1 dL_refusesAny_355 k_0
theorem s104_356  : wp 104 356 [l0, l1, l2] [v0, v1, v2] h Q ↔ wp 104 357 [l0, l1, l2] [.inl 1, v0, v1, v2] h Q := w_const1 dL_refusesAny_356 k_1
theorem s104_357  : wp 104 357 [l0, l1, l2] [.inl x2, .inl x1, .inl x0, .inr (.inl (8 + G.length))] (em G W (hp S D)) Q ↔ wp 74 0 [.inr (.inl (8 + G.length)), .inl x0, .inl x1, .inl x2] [] (em G W (hp S D)) (kont 104 360 [l0, l1, l2] [] Q) := w_callVh (y2 := 74) (vs := [.inl x0, .inl x1, .inl x2]) (st := []) dL_refusesAny_357 (by decide +kernel) rfl (by decide +kernel) (Nat.le_of_ble_eq_true rfl) (eSm_4 (by simp)) 7 rfl em_o rfl (by omega)
theorem s104_360  : wp 104 360 [l0, l1, l2] [v0] h Q ↔ wp 104 362 [l0, l1, l2] [.inl (-2), v0] h Q := w_const2 dL_refusesAny_360 k_m2 k8_m2
theorem s104_362  : wp 104 362 [l0, l1, l2] [.inl z, .inl x] h Q ↔ if x = z then wp 104 365 [l0, l1, l2] [] h Q else wp 104 426 [l0, l1, l2] [] h Q := w_cne dL_refusesAny_362 (by decide)
theorem s104_365 (h0 : a ≠ 0) : wp 104 365 [.inr (.inl a), l1, l2] [] h Q ↔ wp 104 366 [.inr (.inl a), l1, l2] [.inr (.inl a)] h Q := wp_step dL_refusesAny_365 (fun _ => if_neg h0)
theorem s104_366  : wp 104 366 [l0, l1, l2] [v0] h Q ↔ wp 104 367 [l0, l1, l2] [.inl 1, v0] h Q := w_const1 dL_refusesAny_366 k_1
theorem s104_367  : wp 104 367 [l0, .inl x, l2] [v0, v1] h Q ↔ wp 104 368 [l0, .inl x, l2] [.inl x, v0, v1] h Q := wp_step dL_refusesAny_367 (fun _ => rfl)
theorem s104_368  : wp 104 368 [l0, l1, l2] [.inl x, v0, v1] h Q ↔ if x = 0 then wp 104 371 [l0, l1, l2] [v0, v1] h Q else wp 104 375 [l0, l1, l2] [v0, v1] h Q := w_ne0 dL_refusesAny_368 (by decide)
theorem s104_371  : wp 104 371 [l0, l1, l2] [v0, v1] h Q ↔ wp 104 372 [l0, l1, l2] [.inl (-1), v0, v1] h Q := w_const1 dL_refusesAny_371 k_m1
theorem s104_372  : wp 104 372 [l0, l1, l2] [v0, v1, v2] h Q ↔ wp 104 376 [l0, l1, l2] [v0, v1, v2] h Q := w_goto dL_refusesAny_372 (by decide)
theorem s104_375  : wp 104 375 [l0, l1, l2] [v0, v1] h Q ↔ wp 104 376 [l0, l1, l2] [.inl 3, v0, v1] h Q := w_const1 dL_refusesAny_375 k_3
theorem s104_376  : wp 104 376 [l0, l1, l2] [v0, v1, v2] h Q ↔ wp 104 377 [l0, l1, l2] [.inl 1, v0, v1, v2] h Q := w_const1 dL_refusesAny_376 k_1
theorem s104_377  : wp 104 377 [l0, l1, l2] [.inl x2, .inl x1, .inl x0, .inr (.inl (8 + G.length))] (em G W (hp S D)) Q ↔ wp 74 0 [.inr (.inl (8 + G.length)), .inl x0, .inl x1, .inl x2] [] (em G W (hp S D)) (kont 104 380 [l0, l1, l2] [] Q) := w_callVh (y2 := 74) (vs := [.inl x0, .inl x1, .inl x2]) (st := []) dL_refusesAny_377 (by decide +kernel) rfl (by decide +kernel) (Nat.le_of_ble_eq_true rfl) (eSm_4 (by simp)) 7 rfl em_o rfl (by omega)
theorem s104_380  : wp 104 380 [l0, l1, l2] [v0] h Q ↔ wp 104 382 [l0, l1, l2] [.inl (-2), v0] h Q := w_const2 dL_refusesAny_380 k_m2 k8_m2
theorem s104_382  : wp 104 382 [l0, l1, l2] [.inl z, .inl x] h Q ↔ if x = z then wp 104 385 [l0, l1, l2] [] h Q else wp 104 426 [l0, l1, l2] [] h Q := w_cne dL_refusesAny_382 (by decide)
theorem s104_385 (h0 : a ≠ 0) : wp 104 385 [.inr (.inl a), l1, l2] [] h Q ↔ wp 104 386 [.inr (.inl a), l1, l2] [.inr (.inl a)] h Q := wp_step dL_refusesAny_385 (fun _ => if_neg h0)
theorem s104_386  : wp 104 386 [l0, l1, l2] [v0] h Q ↔ wp 104 387 [l0, l1, l2] [.inl 1, v0] h Q := w_const1 dL_refusesAny_386 k_1
theorem s104_387  : wp 104 387 [l0, l1, l2] [v0, v1] h Q ↔ wp 104 388 [l0, l1, l2] [.inl 1, v0, v1] h Q := w_const1 dL_refusesAny_387 k_1
theorem s104_388  : wp 104 388 [l0, .inl x, l2] [v0, v1, v2] h Q ↔ wp 104 389 [l0, .inl x, l2] [.inl x, v0, v1, v2] h Q := wp_step dL_refusesAny_388 (fun _ => rfl)
theorem s104_389  : wp 104 389 [l0, l1, l2] [.inl x, v0, v1, v2] h Q ↔ if x = 0 then wp 104 392 [l0, l1, l2] [v0, v1, v2] h Q else wp 104 396 [l0, l1, l2] [v0, v1, v2] h Q := w_ne0 dL_refusesAny_389 (by decide)
theorem s104_392  : wp 104 392 [l0, l1, l2] [v0, v1, v2] h Q ↔ wp 104 393 [l0, l1, l2] [.inl 0, v0, v1, v2] h Q := w_const1 dL_refusesAny_392 k_0
theorem s104_393  : wp 104 393 [l0, l1, l2] [v0, v1, v2, v3] h Q ↔ wp 104 398 [l0, l1, l2] [v0, v1, v2, v3] h Q := w_goto dL_refusesAny_393 (by decide)
theorem s104_396  : wp 104 396 [l0, l1, l2] [v0, v1, v2] h Q ↔ wp 104 398 [l0, l1, l2] [.inl 7, v0, v1, v2] h Q := w_const2 dL_refusesAny_396 k_7 k8_7
theorem s104_398  : wp 104 398 [l0, l1, l2] [.inl x2, .inl x1, .inl x0, .inr (.inl (8 + G.length))] (em G W (hp S D)) Q ↔ wp 74 0 [.inr (.inl (8 + G.length)), .inl x0, .inl x1, .inl x2] [] (em G W (hp S D)) (kont 104 401 [l0, l1, l2] [] Q) := w_callVh (y2 := 74) (vs := [.inl x0, .inl x1, .inl x2]) (st := []) dL_refusesAny_398 (by decide +kernel) rfl (by decide +kernel) (Nat.le_of_ble_eq_true rfl) (eSm_4 (by simp)) 7 rfl em_o rfl (by omega)
theorem s104_401  : wp 104 401 [l0, l1, l2] [v0] h Q ↔ wp 104 403 [l0, l1, l2] [.inl (-2), v0] h Q := w_const2 dL_refusesAny_401 k_m2 k8_m2
theorem s104_403  : wp 104 403 [l0, l1, l2] [.inl z, .inl x] h Q ↔ if x = z then wp 104 406 [l0, l1, l2] [] h Q else wp 104 426 [l0, l1, l2] [] h Q := w_cne dL_refusesAny_403 (by decide)
theorem s104_406 (h0 : a ≠ 0) : wp 104 406 [.inr (.inl a), l1, l2] [] h Q ↔ wp 104 407 [.inr (.inl a), l1, l2] [.inr (.inl a)] h Q := wp_step dL_refusesAny_406 (fun _ => if_neg h0)
theorem s104_407  : wp 104 407 [l0, .inl x, l2] [v0] h Q ↔ wp 104 408 [l0, .inl x, l2] [.inl x, v0] h Q := wp_step dL_refusesAny_407 (fun _ => rfl)
theorem s104_408  : wp 104 408 [l0, l1, l2] [.inl x, v0] h Q ↔ if x = 0 then wp 104 411 [l0, l1, l2] [v0] h Q else wp 104 415 [l0, l1, l2] [v0] h Q := w_ne0 dL_refusesAny_408 (by decide)
theorem s104_411  : wp 104 411 [l0, l1, l2] [v0] h Q ↔ wp 104 412 [l0, l1, l2] [.inl 0, v0] h Q := w_const1 dL_refusesAny_411 k_0
theorem s104_412  : wp 104 412 [l0, l1, l2] [v0, v1] h Q ↔ wp 104 418 [l0, l1, l2] [v0, v1] h Q := w_goto dL_refusesAny_412 (by decide)
theorem s104_415  : wp 104 415 [l0, l1, l2] [v0] h Q ↔ wp 104 418 [l0, l1, l2] [.inl 201, v0] h Q := w_const3 dL_refusesAny_415 k_201 k16_201
theorem s104_418  : wp 104 418 [l0, l1, l2] [.inl x0, .inr (.inl (8 + G.length))] (em G W (hp S D)) Q ↔ wp 76 0 [.inr (.inl (8 + G.length)), .inl x0, .inr (.inl 0), .inr (.inl 0)] [] (em G W (hp S D)) (kont 104 421 [l0, l1, l2] [] Q) := w_callVh (y2 := 76) (vs := [.inl x0]) (st := []) dL_refusesAny_418 (by decide +kernel) rfl (by decide +kernel) (Nat.le_of_ble_eq_true rfl) (eSm_4 (by simp)) 7 rfl em_o rfl (by omega)
theorem s104_421  : wp 104 421 [l0, l1, l2] [v0] h Q ↔ wp 104 423 [l0, l1, l2] [.inl (-2), v0] h Q := w_const2 dL_refusesAny_421 k_m2 k8_m2
theorem s104_423  : wp 104 423 [l0, l1, l2] [.inl z, .inl x] h Q ↔ if x = z then wp 104 428 [l0, l1, l2] [] h Q else wp 104 426 [l0, l1, l2] [] h Q := w_ceq dL_refusesAny_423 (by decide)
theorem s104_426  : wp 104 426 [l0, l1, l2] [] h Q ↔ wp 104 427 [l0, l1, l2] [.inl 0] h Q := w_const1 dL_refusesAny_426 k_0
theorem s104_427 (h0 : x = 0 ∨ x = 1) : wp 104 427 [l0, l1, l2] [.inl x] h Q ↔ Q (some (.inl x)) h := w_reti dL_refusesAny_427 (e_rz (by decide +kernel) h0)
theorem s104_428 (h0 : a ≠ 0) : wp 104 428 [.inr (.inl a), l1, l2] [] h Q ↔ wp 104 429 [.inr (.inl a), l1, l2] [.inr (.inl a)] h Q := wp_step dL_refusesAny_428 (fun _ => if_neg h0)
theorem s104_429  : wp 104 429 [l0, l1, .inl x] [v0] h Q ↔ wp 104 430 [l0, l1, .inl x] [.inl x, v0] h Q := wp_step dL_refusesAny_429 (fun _ => rfl)
theorem s104_430  : wp 104 430 [l0, l1, l2] [v0, v1] h Q ↔ wp 104 432 [l0, l1, l2] [.inl 9, v0, v1] h Q := w_const2 dL_refusesAny_430 k_9 k8_9
theorem s104_432  : wp 104 432 [l0, l1, l2] [.inl x1, .inl x0, .inr (.inl (8 + G.length))] (em G W (hp S D)) Q ↔ wp 82 0 [.inr (.inl (8 + G.length)), .inl x0, .inl x1, .inr (.inl 0)] [] (em G W (hp S D)) (kont 104 435 [l0, l1, l2] [] Q) := w_callVh (y2 := 82) (vs := [.inl x0, .inl x1]) (st := []) dL_refusesAny_432 (by decide +kernel) rfl (by decide +kernel) (Nat.le_of_ble_eq_true rfl) (eSm_4 (by simp)) 7 rfl em_o rfl (by omega)
theorem s104_435  : wp 104 435 [l0, l1, l2] [v0] h Q ↔ wp 104 436 [l0, l1, l2] [.inl (-1), v0] h Q := w_const1 dL_refusesAny_435 k_m1
theorem s104_436  : wp 104 436 [l0, l1, l2] [.inl z, .inl x] h Q ↔ if x = z then wp 104 439 [l0, l1, l2] [] h Q else wp 104 634 [l0, l1, l2] [] h Q := w_cne dL_refusesAny_436 (by decide)
theorem s104_439 (h0 : a ≠ 0) : wp 104 439 [.inr (.inl a), l1, l2] [] h Q ↔ wp 104 440 [.inr (.inl a), l1, l2] [.inr (.inl a)] h Q := wp_step dL_refusesAny_439 (fun _ => if_neg h0)
theorem s104_440  : wp 104 440 [l0, l1, l2] [v0] h Q ↔ wp 104 441 [l0, l1, l2] [.inl 0, v0] h Q := w_const1 dL_refusesAny_440 k_0
theorem s104_441  : wp 104 441 [l0, .inl x, l2] [v0, v1] h Q ↔ wp 104 442 [l0, .inl x, l2] [.inl x, v0, v1] h Q := wp_step dL_refusesAny_441 (fun _ => rfl)
theorem s104_442  : wp 104 442 [l0, l1, l2] [.inl x, v0, v1] h Q ↔ if x = 0 then wp 104 445 [l0, l1, l2] [v0, v1] h Q else wp 104 449 [l0, l1, l2] [v0, v1] h Q := w_ne0 dL_refusesAny_442 (by decide)
theorem s104_445  : wp 104 445 [l0, l1, l2] [v0, v1] h Q ↔ wp 104 446 [l0, l1, l2] [.inl (-1), v0, v1] h Q := w_const1 dL_refusesAny_445 k_m1
theorem s104_446  : wp 104 446 [l0, l1, l2] [v0, v1, v2] h Q ↔ wp 104 451 [l0, l1, l2] [v0, v1, v2] h Q := w_goto dL_refusesAny_446 (by decide)
theorem s104_449  : wp 104 449 [l0, l1, l2] [v0, v1] h Q ↔ wp 104 451 [l0, l1, l2] [.inl 8, v0, v1] h Q := w_const2 dL_refusesAny_449 k_8 k8_8
theorem s104_451  : wp 104 451 [l0, l1, l2] [.inl x1, .inl x0, .inr (.inl (8 + G.length))] (em G W (hp S D)) Q ↔ wp 82 0 [.inr (.inl (8 + G.length)), .inl x0, .inl x1, .inr (.inl 0)] [] (em G W (hp S D)) (kont 104 454 [l0, l1, l2] [] Q) := w_callVh (y2 := 82) (vs := [.inl x0, .inl x1]) (st := []) dL_refusesAny_451 (by decide +kernel) rfl (by decide +kernel) (Nat.le_of_ble_eq_true rfl) (eSm_4 (by simp)) 7 rfl em_o rfl (by omega)
theorem s104_454  : wp 104 454 [l0, l1, l2] [v0] h Q ↔ wp 104 456 [l0, l1, l2] [.inl (-2), v0] h Q := w_const2 dL_refusesAny_454 k_m2 k8_m2
theorem s104_456  : wp 104 456 [l0, l1, l2] [.inl z, .inl x] h Q ↔ if x = z then wp 104 459 [l0, l1, l2] [] h Q else wp 104 634 [l0, l1, l2] [] h Q := w_cne dL_refusesAny_456 (by decide)
theorem s104_459 (h0 : a ≠ 0) : wp 104 459 [.inr (.inl a), l1, l2] [] h Q ↔ wp 104 460 [.inr (.inl a), l1, l2] [.inr (.inl a)] h Q := wp_step dL_refusesAny_459 (fun _ => if_neg h0)
theorem s104_460  : wp 104 460 [l0, .inl x, l2] [v0] h Q ↔ wp 104 461 [l0, .inl x, l2] [.inl x, v0] h Q := wp_step dL_refusesAny_460 (fun _ => rfl)
theorem s104_461  : wp 104 461 [l0, l1, l2] [.inl x, v0] h Q ↔ if x = 0 then wp 104 464 [l0, l1, l2] [v0] h Q else wp 104 468 [l0, l1, l2] [v0] h Q := w_ne0 dL_refusesAny_461 (by decide)
theorem s104_464  : wp 104 464 [l0, l1, l2] [v0] h Q ↔ wp 104 465 [l0, l1, l2] [.inl (-1), v0] h Q := w_const1 dL_refusesAny_464 k_m1
theorem s104_465  : wp 104 465 [l0, l1, l2] [v0, v1] h Q ↔ wp 104 470 [l0, l1, l2] [v0, v1] h Q := w_goto dL_refusesAny_465 (by decide)
theorem s104_468  : wp 104 468 [l0, l1, l2] [v0] h Q ↔ wp 104 470 [l0, l1, l2] [.inl 8, v0] h Q := w_const2 dL_refusesAny_468 k_8 k8_8
theorem s104_470  : wp 104 470 [l0, l1, l2] [.inl x0, .inr (.inl (8 + G.length))] (em G W (hp S D)) Q ↔ wp 83 0 [.inr (.inl (8 + G.length)), .inl x0] [] (em G W (hp S D)) (kont 104 473 [l0, l1, l2] [] Q) := w_callVh (y2 := 83) (vs := [.inl x0]) (st := []) dL_refusesAny_470 (by decide +kernel) rfl (by decide +kernel) (Nat.le_of_ble_eq_true rfl) (eSm_4 (by simp)) 7 rfl em_o rfl (by omega)
theorem s104_473  : wp 104 473 [l0, l1, l2] [v0] h Q ↔ wp 104 475 [l0, l1, l2] [.inl (-2), v0] h Q := w_const2 dL_refusesAny_473 k_m2 k8_m2
theorem s104_475  : wp 104 475 [l0, l1, l2] [.inl z, .inl x] h Q ↔ if x = z then wp 104 478 [l0, l1, l2] [] h Q else wp 104 634 [l0, l1, l2] [] h Q := w_cne dL_refusesAny_475 (by decide)
theorem s104_478 (h0 : a ≠ 0) : wp 104 478 [.inr (.inl a), l1, l2] [] h Q ↔ wp 104 479 [.inr (.inl a), l1, l2] [.inr (.inl a)] h Q := wp_step dL_refusesAny_478 (fun _ => if_neg h0)
theorem s104_479  : wp 104 479 [l0, l1, .inl x] [v0] h Q ↔ wp 104 480 [l0, l1, .inl x] [.inl x, v0] h Q := wp_step dL_refusesAny_479 (fun _ => rfl)
theorem s104_480  : wp 104 480 [l0, l1, l2] [.inl x0, .inr (.inl (8 + G.length))] (em G W (hp S D)) Q ↔ wp 84 0 [.inr (.inl (8 + G.length)), .inl x0, .inr (.inl 0), .inr (.inl 0), .inr (.inl 0), .inr (.inl 0), .inr (.inl 0)] [] (em G W (hp S D)) (kont 104 483 [l0, l1, l2] [] Q) := w_callVh (y2 := 84) (vs := [.inl x0]) (st := []) dL_refusesAny_480 (by decide +kernel) rfl (by decide +kernel) (Nat.le_of_ble_eq_true rfl) (eSm_4 (by simp)) 7 rfl em_o rfl (by omega)
theorem s104_483  : wp 104 483 [l0, l1, l2] [v0] h Q ↔ wp 104 484 [l0, l1, l2] [.inl (-1), v0] h Q := w_const1 dL_refusesAny_483 k_m1
theorem s104_484  : wp 104 484 [l0, l1, l2] [.inl z, .inl x] h Q ↔ if x = z then wp 104 487 [l0, l1, l2] [] h Q else wp 104 634 [l0, l1, l2] [] h Q := w_cne dL_refusesAny_484 (by decide)
theorem s104_487 (h0 : a ≠ 0) : wp 104 487 [.inr (.inl a), l1, l2] [] h Q ↔ wp 104 488 [.inr (.inl a), l1, l2] [.inr (.inl a)] h Q := wp_step dL_refusesAny_487 (fun _ => if_neg h0)
theorem s104_488  : wp 104 488 [l0, l1, l2] [v0] h Q ↔ wp 104 489 [l0, l1, l2] [.inl (-1), v0] h Q := w_const1 dL_refusesAny_488 k_m1
theorem s104_489  : wp 104 489 [l0, .inl x, l2] [v0, v1] h Q ↔ wp 104 490 [l0, .inl x, l2] [.inl x, v0, v1] h Q := wp_step dL_refusesAny_489 (fun _ => rfl)
theorem s104_490  : wp 104 490 [l0, l1, l2] [.inl z, .inl x, v0] h Q ↔ wp 104 491 [l0, l1, l2] [.inl (w32 (x - z)), v0] h Q := wp_step dL_refusesAny_490 (fun _ => rfl)
theorem s104_491  : wp 104 491 [l0, l1, l2] [.inl x0, .inr (.inl (8 + G.length))] (em G W (hp S D)) Q ↔ wp 86 0 [.inr (.inl (8 + G.length)), .inl x0] [] (em G W (hp S D)) (kont 104 494 [l0, l1, l2] [] Q) := w_callVh (y2 := 86) (vs := [.inl x0]) (st := []) dL_refusesAny_491 (by decide +kernel) rfl (by decide +kernel) (Nat.le_of_ble_eq_true rfl) (eSm_4 (by simp)) 7 rfl em_o rfl (by omega)
theorem s104_494  : wp 104 494 [l0, l1, l2] [v0] h Q ↔ wp 104 496 [l0, l1, l2] [.inl (-2), v0] h Q := w_const2 dL_refusesAny_494 k_m2 k8_m2
theorem s104_496  : wp 104 496 [l0, l1, l2] [.inl z, .inl x] h Q ↔ if x = z then wp 104 499 [l0, l1, l2] [] h Q else wp 104 634 [l0, l1, l2] [] h Q := w_cne dL_refusesAny_496 (by decide)
theorem s104_499 (h0 : a ≠ 0) : wp 104 499 [.inr (.inl a), l1, l2] [] h Q ↔ wp 104 500 [.inr (.inl a), l1, l2] [.inr (.inl a)] h Q := wp_step dL_refusesAny_499 (fun _ => if_neg h0)
theorem s104_500  : wp 104 500 [l0, l1, l2] [v0] h Q ↔ wp 104 502 [l0, l1, l2] [.inl 6, v0] h Q := w_const2 dL_refusesAny_500 k_6 k8_6
theorem s104_502  : wp 104 502 [l0, l1, l2] [.inl x0, .inr (.inl (8 + G.length))] (em G W (hp S D)) Q ↔ wp 86 0 [.inr (.inl (8 + G.length)), .inl x0] [] (em G W (hp S D)) (kont 104 505 [l0, l1, l2] [] Q) := w_callVh (y2 := 86) (vs := [.inl x0]) (st := []) dL_refusesAny_502 (by decide +kernel) rfl (by decide +kernel) (Nat.le_of_ble_eq_true rfl) (eSm_4 (by simp)) 7 rfl em_o rfl (by omega)
theorem s104_505  : wp 104 505 [l0, l1, l2] [v0] h Q ↔ wp 104 507 [l0, l1, l2] [.inl (-5), v0] h Q := w_const2 dL_refusesAny_505 k_m5 k8_m5
theorem s104_507  : wp 104 507 [l0, l1, l2] [.inl z, .inl x] h Q ↔ if x = z then wp 104 510 [l0, l1, l2] [] h Q else wp 104 634 [l0, l1, l2] [] h Q := w_cne dL_refusesAny_507 (by decide)
theorem s104_510 (h0 : a ≠ 0) : wp 104 510 [.inr (.inl a), l1, l2] [] h Q ↔ wp 104 511 [.inr (.inl a), l1, l2] [.inr (.inl a)] h Q := wp_step dL_refusesAny_510 (fun _ => if_neg h0)
theorem s104_511  : wp 104 511 [l0, l1, l2] [v0] h Q ↔ wp 104 512 [l0, l1, l2] [.inl (-1), v0] h Q := w_const1 dL_refusesAny_511 k_m1
theorem s104_512  : wp 104 512 [l0, l1, l2] [v0, v1] h Q ↔ wp 104 513 [l0, l1, l2] [.inl 0, v0, v1] h Q := w_const1 dL_refusesAny_512 k_0
theorem s104_513  : wp 104 513 [l0, l1, l2] [.inl x1, .inl x0, .inr (.inl (8 + G.length))] (em G W (hp S D)) Q ↔ wp 87 0 [.inr (.inl (8 + G.length)), .inl x0, .inl x1, .inr (.inl 0)] [] (em G W (hp S D)) (kont 104 516 [l0, l1, l2] [] Q) := w_callVh (y2 := 87) (vs := [.inl x0, .inl x1]) (st := []) dL_refusesAny_513 (by decide +kernel) rfl (by decide +kernel) (Nat.le_of_ble_eq_true rfl) (eSm_4 (by simp)) 7 rfl em_o rfl (by omega)
theorem s104_516  : wp 104 516 [l0, l1, l2] [v0] h Q ↔ wp 104 518 [l0, l1, l2] [.inl (-2), v0] h Q := w_const2 dL_refusesAny_516 k_m2 k8_m2
theorem s104_518  : wp 104 518 [l0, l1, l2] [.inl z, .inl x] h Q ↔ if x = z then wp 104 521 [l0, l1, l2] [] h Q else wp 104 634 [l0, l1, l2] [] h Q := w_cne dL_refusesAny_518 (by decide)
theorem s104_521 (h0 : a ≠ 0) : wp 104 521 [.inr (.inl a), l1, l2] [] h Q ↔ wp 104 522 [.inr (.inl a), l1, l2] [.inr (.inl a)] h Q := wp_step dL_refusesAny_521 (fun _ => if_neg h0)
theorem s104_522  : wp 104 522 [l0, l1, l2] [v0] h Q ↔ wp 104 523 [l0, l1, l2] [.inl 0, v0] h Q := w_const1 dL_refusesAny_522 k_0
theorem s104_523  : wp 104 523 [l0, .inl x, l2] [v0, v1] h Q ↔ wp 104 524 [l0, .inl x, l2] [.inl x, v0, v1] h Q := wp_step dL_refusesAny_523 (fun _ => rfl)
theorem s104_524  : wp 104 524 [l0, l1, l2] [.inl x, v0, v1] h Q ↔ if x = 0 then wp 104 527 [l0, l1, l2] [v0, v1] h Q else wp 104 531 [l0, l1, l2] [v0, v1] h Q := w_ne0 dL_refusesAny_524 (by decide)
theorem s104_527  : wp 104 527 [l0, l1, l2] [v0, v1] h Q ↔ wp 104 528 [l0, l1, l2] [.inl (-1), v0, v1] h Q := w_const1 dL_refusesAny_527 k_m1
theorem s104_528  : wp 104 528 [l0, l1, l2] [v0, v1, v2] h Q ↔ wp 104 532 [l0, l1, l2] [v0, v1, v2] h Q := w_goto dL_refusesAny_528 (by decide)
theorem s104_531  : wp 104 531 [l0, l1, l2] [v0, v1] h Q ↔ wp 104 532 [l0, l1, l2] [.inl 3, v0, v1] h Q := w_const1 dL_refusesAny_531 k_3
theorem s104_532  : wp 104 532 [l0, l1, l2] [.inl x1, .inl x0, .inr (.inl (8 + G.length))] (em G W (hp S D)) Q ↔ wp 87 0 [.inr (.inl (8 + G.length)), .inl x0, .inl x1, .inr (.inl 0)] [] (em G W (hp S D)) (kont 104 535 [l0, l1, l2] [] Q) := w_callVh (y2 := 87) (vs := [.inl x0, .inl x1]) (st := []) dL_refusesAny_532 (by decide +kernel) rfl (by decide +kernel) (Nat.le_of_ble_eq_true rfl) (eSm_4 (by simp)) 7 rfl em_o rfl (by omega)
theorem s104_535  : wp 104 535 [l0, l1, l2] [v0] h Q ↔ wp 104 537 [l0, l1, l2] [.inl (-2), v0] h Q := w_const2 dL_refusesAny_535 k_m2 k8_m2
theorem s104_537  : wp 104 537 [l0, l1, l2] [.inl z, .inl x] h Q ↔ if x = z then wp 104 540 [l0, l1, l2] [] h Q else wp 104 634 [l0, l1, l2] [] h Q := w_cne dL_refusesAny_537 (by decide)
theorem s104_540 (h0 : a ≠ 0) : wp 104 540 [.inr (.inl a), l1, l2] [] h Q ↔ wp 104 541 [.inr (.inl a), l1, l2] [.inr (.inl a)] h Q := wp_step dL_refusesAny_540 (fun _ => if_neg h0)
theorem s104_541  : wp 104 541 [l0, l1, l2] [v0] h Q ↔ wp 104 543 [l0, l1, l2] [.inl 10, v0] h Q := w_const2 dL_refusesAny_541 k_10 k8_10
theorem s104_543  : wp 104 543 [l0, l1, l2] [v0, v1] h Q ↔ wp 104 544 [l0, l1, l2] [.inl 0, v0, v1] h Q := w_const1 dL_refusesAny_543 k_0
theorem s104_544  : wp 104 544 [l0, l1, l2] [.inl x1, .inl x0, .inr (.inl (8 + G.length))] (em G W (hp S D)) Q ↔ wp 87 0 [.inr (.inl (8 + G.length)), .inl x0, .inl x1, .inr (.inl 0)] [] (em G W (hp S D)) (kont 104 547 [l0, l1, l2] [] Q) := w_callVh (y2 := 87) (vs := [.inl x0, .inl x1]) (st := []) dL_refusesAny_544 (by decide +kernel) rfl (by decide +kernel) (Nat.le_of_ble_eq_true rfl) (eSm_4 (by simp)) 7 rfl em_o rfl (by omega)
theorem s104_547  : wp 104 547 [l0, l1, l2] [v0] h Q ↔ wp 104 549 [l0, l1, l2] [.inl (-5), v0] h Q := w_const2 dL_refusesAny_547 k_m5 k8_m5
theorem s104_549  : wp 104 549 [l0, l1, l2] [.inl z, .inl x] h Q ↔ if x = z then wp 104 552 [l0, l1, l2] [] h Q else wp 104 634 [l0, l1, l2] [] h Q := w_cne dL_refusesAny_549 (by decide)
theorem s104_552 (h0 : a ≠ 0) : wp 104 552 [.inr (.inl a), l1, l2] [] h Q ↔ wp 104 553 [.inr (.inl a), l1, l2] [.inr (.inl a)] h Q := wp_step dL_refusesAny_552 (fun _ => if_neg h0)
theorem s104_553  : wp 104 553 [l0, l1, l2] [v0] h Q ↔ wp 104 554 [l0, l1, l2] [.inl (-1), v0] h Q := w_const1 dL_refusesAny_553 k_m1
theorem s104_554  : wp 104 554 [l0, l1, l2] [v0, v1] h Q ↔ wp 104 555 [l0, l1, l2] [.inl 0, v0, v1] h Q := w_const1 dL_refusesAny_554 k_0
theorem s104_555  : wp 104 555 [l0, l1, l2] [.inl x1, .inl x0, .inr (.inl (8 + G.length))] (em G W (hp S D)) Q ↔ wp 88 0 [.inr (.inl (8 + G.length)), .inl x0, .inl x1, .inr (.inl 0)] [] (em G W (hp S D)) (kont 104 558 [l0, l1, l2] [] Q) := w_callVh (y2 := 88) (vs := [.inl x0, .inl x1]) (st := []) dL_refusesAny_555 (by decide +kernel) rfl (by decide +kernel) (Nat.le_of_ble_eq_true rfl) (eSm_4 (by simp)) 7 rfl em_o rfl (by omega)
theorem s104_558  : wp 104 558 [l0, l1, l2] [v0] h Q ↔ wp 104 560 [l0, l1, l2] [.inl (-2), v0] h Q := w_const2 dL_refusesAny_558 k_m2 k8_m2
theorem s104_560  : wp 104 560 [l0, l1, l2] [.inl z, .inl x] h Q ↔ if x = z then wp 104 563 [l0, l1, l2] [] h Q else wp 104 634 [l0, l1, l2] [] h Q := w_cne dL_refusesAny_560 (by decide)
theorem s104_563 (h0 : a ≠ 0) : wp 104 563 [.inr (.inl a), l1, l2] [] h Q ↔ wp 104 564 [.inr (.inl a), l1, l2] [.inr (.inl a)] h Q := wp_step dL_refusesAny_563 (fun _ => if_neg h0)
theorem s104_564  : wp 104 564 [l0, l1, l2] [v0] h Q ↔ wp 104 565 [l0, l1, l2] [.inl 0, v0] h Q := w_const1 dL_refusesAny_564 k_0
theorem s104_565  : wp 104 565 [l0, .inl x, l2] [v0, v1] h Q ↔ wp 104 566 [l0, .inl x, l2] [.inl x, v0, v1] h Q := wp_step dL_refusesAny_565 (fun _ => rfl)
theorem s104_566  : wp 104 566 [l0, l1, l2] [.inl x, v0, v1] h Q ↔ if x = 0 then wp 104 569 [l0, l1, l2] [v0, v1] h Q else wp 104 573 [l0, l1, l2] [v0, v1] h Q := w_ne0 dL_refusesAny_566 (by decide)
theorem s104_569  : wp 104 569 [l0, l1, l2] [v0, v1] h Q ↔ wp 104 570 [l0, l1, l2] [.inl (-1), v0, v1] h Q := w_const1 dL_refusesAny_569 k_m1
theorem s104_570  : wp 104 570 [l0, l1, l2] [v0, v1, v2] h Q ↔ wp 104 574 [l0, l1, l2] [v0, v1, v2] h Q := w_goto dL_refusesAny_570 (by decide)
theorem s104_573  : wp 104 573 [l0, l1, l2] [v0, v1] h Q ↔ wp 104 574 [l0, l1, l2] [.inl 3, v0, v1] h Q := w_const1 dL_refusesAny_573 k_3
theorem s104_574  : wp 104 574 [l0, l1, l2] [.inl x1, .inl x0, .inr (.inl (8 + G.length))] (em G W (hp S D)) Q ↔ wp 88 0 [.inr (.inl (8 + G.length)), .inl x0, .inl x1, .inr (.inl 0)] [] (em G W (hp S D)) (kont 104 577 [l0, l1, l2] [] Q) := w_callVh (y2 := 88) (vs := [.inl x0, .inl x1]) (st := []) dL_refusesAny_574 (by decide +kernel) rfl (by decide +kernel) (Nat.le_of_ble_eq_true rfl) (eSm_4 (by simp)) 7 rfl em_o rfl (by omega)
theorem s104_577  : wp 104 577 [l0, l1, l2] [v0] h Q ↔ wp 104 579 [l0, l1, l2] [.inl (-2), v0] h Q := w_const2 dL_refusesAny_577 k_m2 k8_m2
theorem s104_579  : wp 104 579 [l0, l1, l2] [.inl z, .inl x] h Q ↔ if x = z then wp 104 582 [l0, l1, l2] [] h Q else wp 104 634 [l0, l1, l2] [] h Q := w_cne dL_refusesAny_579 (by decide)
theorem s104_582 (h0 : a ≠ 0) : wp 104 582 [.inr (.inl a), l1, l2] [] h Q ↔ wp 104 583 [.inr (.inl a), l1, l2] [.inr (.inl a)] h Q := wp_step dL_refusesAny_582 (fun _ => if_neg h0)
theorem s104_583  : wp 104 583 [l0, l1, l2] [v0] h Q ↔ wp 104 585 [l0, l1, l2] [.inl 10, v0] h Q := w_const2 dL_refusesAny_583 k_10 k8_10
theorem s104_585  : wp 104 585 [l0, l1, l2] [v0, v1] h Q ↔ wp 104 586 [l0, l1, l2] [.inl 0, v0, v1] h Q := w_const1 dL_refusesAny_585 k_0
theorem s104_586  : wp 104 586 [l0, l1, l2] [.inl x1, .inl x0, .inr (.inl (8 + G.length))] (em G W (hp S D)) Q ↔ wp 88 0 [.inr (.inl (8 + G.length)), .inl x0, .inl x1, .inr (.inl 0)] [] (em G W (hp S D)) (kont 104 589 [l0, l1, l2] [] Q) := w_callVh (y2 := 88) (vs := [.inl x0, .inl x1]) (st := []) dL_refusesAny_586 (by decide +kernel) rfl (by decide +kernel) (Nat.le_of_ble_eq_true rfl) (eSm_4 (by simp)) 7 rfl em_o rfl (by omega)
theorem s104_589  : wp 104 589 [l0, l1, l2] [v0] h Q ↔ wp 104 591 [l0, l1, l2] [.inl (-5), v0] h Q := w_const2 dL_refusesAny_589 k_m5 k8_m5
theorem s104_591  : wp 104 591 [l0, l1, l2] [.inl z, .inl x] h Q ↔ if x = z then wp 104 594 [l0, l1, l2] [] h Q else wp 104 634 [l0, l1, l2] [] h Q := w_cne dL_refusesAny_591 (by decide)
theorem s104_594 (h0 : a ≠ 0) : wp 104 594 [.inr (.inl a), l1, l2] [] h Q ↔ wp 104 595 [.inr (.inl a), l1, l2] [.inr (.inl a)] h Q := wp_step dL_refusesAny_594 (fun _ => if_neg h0)
theorem s104_595  : wp 104 595 [l0, .inl x, l2] [v0] h Q ↔ wp 104 596 [l0, .inl x, l2] [.inl x, v0] h Q := wp_step dL_refusesAny_595 (fun _ => rfl)
theorem s104_596  : wp 104 596 [l0, l1, l2] [.inl x, v0] h Q ↔ if x = 0 then wp 104 599 [l0, l1, l2] [v0] h Q else wp 104 603 [l0, l1, l2] [v0] h Q := w_ne0 dL_refusesAny_596 (by decide)
theorem s104_599  : wp 104 599 [l0, l1, l2] [v0] h Q ↔ wp 104 600 [l0, l1, l2] [.inl (-1), v0] h Q := w_const1 dL_refusesAny_599 k_m1
theorem s104_600  : wp 104 600 [l0, l1, l2] [v0, v1] h Q ↔ wp 104 605 [l0, l1, l2] [v0, v1] h Q := w_goto dL_refusesAny_600 (by decide)
theorem s104_603  : wp 104 603 [l0, l1, l2] [v0] h Q ↔ wp 104 605 [l0, l1, l2] [.inl 14, v0] h Q := w_const2 dL_refusesAny_603 k_14 k8_14
theorem s104_605  : wp 104 605 [l0, l1, l2] [.inl x0, .inr (.inl (8 + G.length))] (em G W (hp S D)) Q ↔ wp 89 0 [.inr (.inl (8 + G.length)), .inl x0] [] (em G W (hp S D)) (kont 104 608 [l0, l1, l2] [] Q) := w_callVh (y2 := 89) (vs := [.inl x0]) (st := []) dL_refusesAny_605 (by decide +kernel) rfl (by decide +kernel) (Nat.le_of_ble_eq_true rfl) (eSm_4 (by simp)) 7 rfl em_o rfl (by omega)
theorem s104_608  : wp 104 608 [l0, l1, l2] [v0] h Q ↔ wp 104 610 [l0, l1, l2] [.inl (-2), v0] h Q := w_const2 dL_refusesAny_608 k_m2 k8_m2
theorem s104_610  : wp 104 610 [l0, l1, l2] [.inl z, .inl x] h Q ↔ if x = z then wp 104 613 [l0, l1, l2] [] h Q else wp 104 634 [l0, l1, l2] [] h Q := w_cne dL_refusesAny_610 (by decide)
theorem s104_613 (h0 : a ≠ 0) : wp 104 613 [.inr (.inl a), l1, l2] [] h Q ↔ wp 104 614 [.inr (.inl a), l1, l2] [.inr (.inl a)] h Q := wp_step dL_refusesAny_613 (fun _ => if_neg h0)
theorem s104_614  : wp 104 614 [l0, .inl x, l2] [v0] h Q ↔ wp 104 615 [l0, .inl x, l2] [.inl x, v0] h Q := wp_step dL_refusesAny_614 (fun _ => rfl)
theorem s104_615  : wp 104 615 [l0, l1, l2] [.inl x, v0] h Q ↔ if x = 0 then wp 104 618 [l0, l1, l2] [v0] h Q else wp 104 622 [l0, l1, l2] [v0] h Q := w_ne0 dL_refusesAny_615 (by decide)
theorem s104_618  : wp 104 618 [l0, l1, l2] [v0] h Q ↔ wp 104 619 [l0, l1, l2] [.inl (-1), v0] h Q := w_const1 dL_refusesAny_618 k_m1
theorem s104_619  : wp 104 619 [l0, l1, l2] [v0, v1] h Q ↔ wp 104 623 [l0, l1, l2] [v0, v1] h Q := w_goto dL_refusesAny_619 (by decide)
theorem s104_622  : wp 104 622 [l0, l1, l2] [v0] h Q ↔ wp 104 623 [l0, l1, l2] [.inl 4, v0] h Q := w_const1 dL_refusesAny_622 k_4
theorem s104_623  : wp 104 623 [l0, l1, l2] [.inl x0, .inr (.inl (8 + G.length))] (em G W (hp S D)) Q ↔ wp 90 0 [.inr (.inl (8 + G.length)), .inl x0] [] (em G W (hp S D)) (kont 104 626 [l0, l1, l2] [] Q) := w_callVh (y2 := 90) (vs := [.inl x0]) (st := []) dL_refusesAny_623 (by decide +kernel) rfl (by decide +kernel) (Nat.le_of_ble_eq_true rfl) (eSm_4 (by simp)) 7 rfl em_o rfl (by omega)
theorem s104_626  : wp 104 626 [l0, l1, l2] [v0] h Q ↔ wp 104 627 [l0, l1, l2] [.inl (-1), v0] h Q := w_const1 dL_refusesAny_626 k_m1
theorem s104_627  : wp 104 627 [l0, l1, l2] [.inl z, .inl x] h Q ↔ if x = z then wp 104 630 [l0, l1, l2] [] h Q else wp 104 634 [l0, l1, l2] [] h Q := w_cne dL_refusesAny_627 (by decide)
theorem s104_630  : wp 104 630 [l0, l1, l2] [] h Q ↔ wp 104 631 [l0, l1, l2] [.inl 1] h Q := w_const1 dL_refusesAny_630 k_1
theorem s104_631  : wp 104 631 [l0, l1, l2] [v0] h Q ↔ wp 104 635 [l0, l1, l2] [v0] h Q := w_goto dL_refusesAny_631 (by decide)
theorem s104_634  : wp 104 634 [l0, l1, l2] [] h Q ↔ wp 104 635 [l0, l1, l2] [.inl 0] h Q := w_const1 dL_refusesAny_634 k_0
theorem s104_635 (h0 : x = 0 ∨ x = 1) : wp 104 635 [l0, l1, l2] [.inl x] h Q ↔ Q (some (.inl x)) h := w_reti dL_refusesAny_635 (e_rz (by decide +kernel) h0)
theorem s105_0 (h0 : a ≠ 0) : wp 105 0 [.inr (.inl a), l1, l2, l3] [] h Q ↔ wp 105 1 [.inr (.inl a), l1, l2, l3] [.inr (.inl a)] h Q := wp_step dL_refused_0 (fun _ => if_neg h0)
theorem s105_1  : wp 105 1 [l0, l1, l2, l3] [.inr (.inl a0)] h Q ↔ wp 103 0 [.inr (.inl a0), .inr (.inl 0), .inr (.inl 0), .inr (.inl 0)] [] h (kont 105 4 [l0, l1, l2, l3] [] Q) := w_callS (y2 := 103) (kd := 0) (vs := [.inr (.inl a0)]) (st := []) dL_refused_1 (by decide +kernel) (by decide) rfl (by decide +kernel) (Nat.le_of_ble_eq_true rfl) (eSm_4 (by simp))
theorem s105_4  : wp 105 4 [l0, l1, l2, l3] [.inr (.inr w)] h Q ↔ wp 105 5 [l0, .inr (.inr w), .inr (.inl 0), l3] [] h Q := wp_step dL_refused_4 (fun _ => rfl)
theorem s105_5 (h0 : a ≠ 0) : wp 105 5 [.inr (.inl a), l1, l2, l3] [] h Q ↔ wp 105 6 [.inr (.inl a), l1, l2, l3] [.inr (.inl a)] h Q := wp_step dL_refused_5 (fun _ => if_neg h0)
theorem s105_6  : wp 105 6 [l0, l1, l2, l3] [v0] h Q ↔ wp 105 8 [l0, l1, l2, l3] [.inl 12, v0] h Q := w_const2 dL_refused_6 k_12 k8_12
theorem s105_8  : wp 105 8 [l0, l1, l2, l3] [.inl x0, .inr (.inl (8 + G.length))] (em G W (hp S D)) Q ↔ wp 89 0 [.inr (.inl (8 + G.length)), .inl x0] [] (em G W (hp S D)) (kont 105 11 [l0, l1, l2, l3] [] Q) := w_callVh (y2 := 89) (vs := [.inl x0]) (st := []) dL_refused_8 (by decide +kernel) rfl (by decide +kernel) (Nat.le_of_ble_eq_true rfl) (eSm_4 (by simp)) 7 rfl em_o rfl (by omega)
theorem s105_11  : wp 105 11 [l0, l1, l2, l3] [.inl x] h Q ↔ wp 105 12 [l0, l1, l2, .inl x] [] h Q := wp_step dL_refused_11 (fun _ => rfl)
theorem s105_12 (h0 : a ≠ 0) : wp 105 12 [.inr (.inl a), l1, l2, l3] [] h Q ↔ wp 105 13 [.inr (.inl a), l1, l2, l3] [.inr (.inl a)] h Q := wp_step dL_refused_12 (fun _ => if_neg h0)
theorem s105_13  : wp 105 13 [l0, l1, l2, l3] [v0] h Q ↔ wp 105 14 [l0, l1, l2, l3] [.inl 0, v0] h Q := w_const1 dL_refused_13 k_0
theorem s105_14  : wp 105 14 [l0, l1, l2, l3] [.inl x1, .inr (.inl a0)] h Q ↔ wp 104 0 [.inr (.inl a0), .inl x1, .inr (.inl 0)] [] h (kont 105 17 [l0, l1, l2, l3] [] Q) := w_callS (y2 := 104) (kd := 0) (vs := [.inr (.inl a0), .inl x1]) (st := []) dL_refused_14 (by decide +kernel) (by decide) rfl (by decide +kernel) (Nat.le_of_ble_eq_true rfl) (eSm_4 (by simp))
theorem s105_17  : wp 105 17 [l0, l1, l2, l3] [.inl x] h Q ↔ if x = 0 then wp 105 51 [l0, l1, l2, l3] [] h Q else wp 105 20 [l0, l1, l2, l3] [] h Q := w_eq0 dL_refused_17 (by decide)
theorem s105_20 (h0 : a ≠ 0) : wp 105 20 [.inr (.inl a), l1, l2, l3] [] h Q ↔ wp 105 21 [.inr (.inl a), l1, l2, l3] [.inr (.inl a)] h Q := wp_step dL_refused_20 (fun _ => if_neg h0)
theorem s105_21  : wp 105 21 [l0, l1, l2, l3] [v0] h Q ↔ wp 105 22 [l0, l1, l2, l3] [.inl 1, v0] h Q := w_const1 dL_refused_21 k_1
theorem s105_22  : wp 105 22 [l0, l1, l2, l3] [.inl x1, .inr (.inl a0)] h Q ↔ wp 104 0 [.inr (.inl a0), .inl x1, .inr (.inl 0)] [] h (kont 105 25 [l0, l1, l2, l3] [] Q) := w_callS (y2 := 104) (kd := 0) (vs := [.inr (.inl a0), .inl x1]) (st := []) dL_refused_22 (by decide +kernel) (by decide) rfl (by decide +kernel) (Nat.le_of_ble_eq_true rfl) (eSm_4 (by simp))
theorem s105_25  : wp 105 25 [l0, l1, l2, l3] [.inl x] h Q ↔ if x = 0 then wp 105 51 [l0, l1, l2, l3] [] h Q else wp 105 28 [l0, l1, l2, l3] [] h Q := w_eq0 dL_refused_25 (by decide)
theorem s105_28 (h0 : a ≠ 0) : wp 105 28 [.inr (.inl a), l1, l2, l3] [] h Q ↔ wp 105 29 [.inr (.inl a), l1, l2, l3] [.inr (.inl a)] h Q := wp_step dL_refused_28 (fun _ => if_neg h0)
theorem s105_29  : wp 105 29 [l0, l1, l2, l3] [.inr (.inl a0)] h Q ↔ wp 103 0 [.inr (.inl a0), .inr (.inl 0), .inr (.inl 0), .inr (.inl 0)] [] h (kont 105 32 [l0, l1, l2, l3] [] Q) := w_callS (y2 := 103) (kd := 0) (vs := [.inr (.inl a0)]) (st := []) dL_refused_29 (by decide +kernel) (by decide) rfl (by decide +kernel) (Nat.le_of_ble_eq_true rfl) (eSm_4 (by simp))
theorem s105_32  : wp 105 32 [l0, .inr (.inr w), l2, l3] [v0] h Q ↔ wp 105 33 [l0, .inr (.inr w), l2, l3] [.inr (.inr w), v0] h Q := wp_step dL_refused_32 (fun _ => rfl)
theorem s105_33  : wp 105 33 [l0, l1, l2, l3] [.inr (.inr w1), .inr (.inr w0)] h Q ↔ wp 105 34 [l0, l1, l2, l3] [.inl (lg_cmp w0 w1).toInt] h Q := wp_step dL_refused_33 (fun _ => rfl)
theorem s105_34  : wp 105 34 [l0, l1, l2, l3] [.inl x] h Q ↔ if x = 0 then wp 105 37 [l0, l1, l2, l3] [] h Q else wp 105 51 [l0, l1, l2, l3] [] h Q := w_ne0 dL_refused_34 (by decide)
theorem s105_37 (h0 : a ≠ 0) : wp 105 37 [.inr (.inl a), l1, l2, l3] [] h Q ↔ wp 105 38 [.inr (.inl a), l1, l2, l3] [.inr (.inl a)] h Q := wp_step dL_refused_37 (fun _ => if_neg h0)
theorem s105_38  : wp 105 38 [l0, l1, l2, l3] [v0] h Q ↔ wp 105 40 [l0, l1, l2, l3] [.inl 12, v0] h Q := w_const2 dL_refused_38 k_12 k8_12
theorem s105_40  : wp 105 40 [l0, l1, l2, l3] [.inl x0, .inr (.inl (8 + G.length))] (em G W (hp S D)) Q ↔ wp 89 0 [.inr (.inl (8 + G.length)), .inl x0] [] (em G W (hp S D)) (kont 105 43 [l0, l1, l2, l3] [] Q) := w_callVh (y2 := 89) (vs := [.inl x0]) (st := []) dL_refused_40 (by decide +kernel) rfl (by decide +kernel) (Nat.le_of_ble_eq_true rfl) (eSm_4 (by simp)) 7 rfl em_o rfl (by omega)
theorem s105_43  : wp 105 43 [l0, l1, l2, .inl x] [v0] h Q ↔ wp 105 44 [l0, l1, l2, .inl x] [.inl x, v0] h Q := wp_step dL_refused_43 (fun _ => rfl)
theorem s105_44  : wp 105 44 [l0, l1, l2, l3] [.inl z, .inl x] h Q ↔ if x = z then wp 105 47 [l0, l1, l2, l3] [] h Q else wp 105 51 [l0, l1, l2, l3] [] h Q := w_cne dL_refused_44 (by decide)
theorem s105_47  : wp 105 47 [l0, l1, l2, l3] [] h Q ↔ wp 105 48 [l0, l1, l2, l3] [.inl 1] h Q := w_const1 dL_refused_47 k_1
theorem s105_48  : wp 105 48 [l0, l1, l2, l3] [v0] h Q ↔ wp 105 52 [l0, l1, l2, l3] [v0] h Q := w_goto dL_refused_48 (by decide)
theorem s105_51  : wp 105 51 [l0, l1, l2, l3] [] h Q ↔ wp 105 52 [l0, l1, l2, l3] [.inl 0] h Q := w_const1 dL_refused_51 k_0
theorem s105_52 (h0 : x = 0 ∨ x = 1) : wp 105 52 [l0, l1, l2, l3] [.inl x] h Q ↔ Q (some (.inl x)) h := w_reti dL_refused_52 (e_rz (by decide +kernel) h0)
theorem s106_0 (h0 : a ≠ 0) : wp 106 0 [.inr (.inl a), l1, l2, l3, l4] [] h Q ↔ wp 106 1 [.inr (.inl a), l1, l2, l3, l4] [.inr (.inl a)] h Q := wp_step dL_isEvent_0 (fun _ => if_neg h0)
theorem s106_1  : wp 106 1 [l0, .inl x, l2, l3, l4] [v0] h Q ↔ wp 106 2 [l0, .inl x, l2, l3, l4] [.inl x, v0] h Q := wp_step dL_isEvent_1 (fun _ => rfl)
theorem s106_2  : wp 106 2 [l0, l1, l2, l3, l4] [v0, v1] h Q ↔ wp 106 3 [l0, l1, l2, l3, l4] [.inl 0, v0, v1] h Q := w_const1 dL_isEvent_2 k_0
theorem s106_3  : wp 106 3 [l0, l1, l2, l3, l4] [.inl x1, .inl x0, .inr (.inl (8 + G.length))] (em G W (hp S D)) Q ↔ wp 88 0 [.inr (.inl (8 + G.length)), .inl x0, .inl x1, .inr (.inl 0)] [] (em G W (hp S D)) (kont 106 6 [l0, l1, l2, l3, l4] [] Q) := w_callVh (y2 := 88) (vs := [.inl x0, .inl x1]) (st := []) dL_isEvent_3 (by decide +kernel) rfl (by decide +kernel) (Nat.le_of_ble_eq_true rfl) (eSm_4 (by simp)) 7 rfl em_o rfl (by omega)
theorem s106_6  : wp 106 6 [l0, l1, .inl x, l3, l4] [v0] h Q ↔ wp 106 7 [l0, l1, .inl x, l3, l4] [.inl x, v0] h Q := wp_step dL_isEvent_6 (fun _ => rfl)
theorem s106_7  : wp 106 7 [l0, l1, l2, l3, l4] [.inl z, .inl x] h Q ↔ if x = z then wp 106 10 [l0, l1, l2, l3, l4] [] h Q else wp 106 35 [l0, l1, l2, l3, l4] [] h Q := w_cne dL_isEvent_7 (by decide)
theorem s106_10 (h0 : a ≠ 0) : wp 106 10 [.inr (.inl a), l1, l2, l3, l4] [] h Q ↔ wp 106 11 [.inr (.inl a), l1, l2, l3, l4] [.inr (.inl a)] h Q := wp_step dL_isEvent_10 (fun _ => if_neg h0)
theorem s106_11  : wp 106 11 [l0, .inl x, l2, l3, l4] [v0] h Q ↔ wp 106 12 [l0, .inl x, l2, l3, l4] [.inl x, v0] h Q := wp_step dL_isEvent_11 (fun _ => rfl)
theorem s106_12  : wp 106 12 [l0, l1, l2, l3, l4] [v0, v1] h Q ↔ wp 106 13 [l0, l1, l2, l3, l4] [.inl 1, v0, v1] h Q := w_const1 dL_isEvent_12 k_1
theorem s106_13  : wp 106 13 [l0, l1, l2, l3, l4] [.inl x1, .inl x0, .inr (.inl (8 + G.length))] (em G W (hp S D)) Q ↔ wp 88 0 [.inr (.inl (8 + G.length)), .inl x0, .inl x1, .inr (.inl 0)] [] (em G W (hp S D)) (kont 106 16 [l0, l1, l2, l3, l4] [] Q) := w_callVh (y2 := 88) (vs := [.inl x0, .inl x1]) (st := []) dL_isEvent_13 (by decide +kernel) rfl (by decide +kernel) (Nat.le_of_ble_eq_true rfl) (eSm_4 (by simp)) 7 rfl em_o rfl (by omega)
theorem s106_16  : wp 106 16 [l0, l1, l2, .inl x, l4] [v0] h Q ↔ wp 106 17 [l0, l1, l2, .inl x, l4] [.inl x, v0] h Q := wp_step dL_isEvent_16 (fun _ => rfl)
theorem s106_17  : wp 106 17 [l0, l1, l2, l3, l4] [.inl z, .inl x] h Q ↔ if x = z then wp 106 20 [l0, l1, l2, l3, l4] [] h Q else wp 106 35 [l0, l1, l2, l3, l4] [] h Q := w_cne dL_isEvent_17 (by decide)
theorem s106_20 (h0 : a ≠ 0) : wp 106 20 [.inr (.inl a), l1, l2, l3, l4] [] h Q ↔ wp 106 21 [.inr (.inl a), l1, l2, l3, l4] [.inr (.inl a)] h Q := wp_step dL_isEvent_20 (fun _ => if_neg h0)
theorem s106_21  : wp 106 21 [l0, .inl x, l2, l3, l4] [v0] h Q ↔ wp 106 22 [l0, .inl x, l2, l3, l4] [.inl x, v0] h Q := wp_step dL_isEvent_21 (fun _ => rfl)
theorem s106_22  : wp 106 22 [l0, l1, l2, l3, l4] [v0, v1] h Q ↔ wp 106 23 [l0, l1, l2, l3, l4] [.inl 2, v0, v1] h Q := w_const1 dL_isEvent_22 k_2
theorem s106_23  : wp 106 23 [l0, l1, l2, l3, l4] [.inl x1, .inl x0, .inr (.inl (8 + G.length))] (em G W (hp S D)) Q ↔ wp 88 0 [.inr (.inl (8 + G.length)), .inl x0, .inl x1, .inr (.inl 0)] [] (em G W (hp S D)) (kont 106 26 [l0, l1, l2, l3, l4] [] Q) := w_callVh (y2 := 88) (vs := [.inl x0, .inl x1]) (st := []) dL_isEvent_23 (by decide +kernel) rfl (by decide +kernel) (Nat.le_of_ble_eq_true rfl) (eSm_4 (by simp)) 7 rfl em_o rfl (by omega)
theorem s106_26  : wp 106 26 [l0, l1, l2, l3, .inl x] [v0] h Q ↔ wp 106 28 [l0, l1, l2, l3, .inl x] [.inl x, v0] h Q := wp_step dL_isEvent_26 (fun _ => rfl)
theorem s106_28  : wp 106 28 [l0, l1, l2, l3, l4] [.inl z, .inl x] h Q ↔ if x = z then wp 106 31 [l0, l1, l2, l3, l4] [] h Q else wp 106 35 [l0, l1, l2, l3, l4] [] h Q := w_cne dL_isEvent_28 (by decide)
theorem s106_31  : wp 106 31 [l0, l1, l2, l3, l4] [] h Q ↔ wp 106 32 [l0, l1, l2, l3, l4] [.inl 1] h Q := w_const1 dL_isEvent_31 k_1
theorem s106_32  : wp 106 32 [l0, l1, l2, l3, l4] [v0] h Q ↔ wp 106 36 [l0, l1, l2, l3, l4] [v0] h Q := w_goto dL_isEvent_32 (by decide)
theorem s106_35  : wp 106 35 [l0, l1, l2, l3, l4] [] h Q ↔ wp 106 36 [l0, l1, l2, l3, l4] [.inl 0] h Q := w_const1 dL_isEvent_35 k_0
theorem s106_36 (h0 : x = 0 ∨ x = 1) : wp 106 36 [l0, l1, l2, l3, l4] [.inl x] h Q ↔ Q (some (.inl x)) h := w_reti dL_isEvent_36 (e_rz (by decide +kernel) h0)
end ELSTEP
