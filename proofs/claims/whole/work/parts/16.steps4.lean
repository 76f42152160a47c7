section ESTEP
variable {l0 l1 l2 l3 l4 l5 l6 v0 v1 v2 v3 v4 v5 v6 v7 p q p0 p1 p2 p3 : eV} {a : Nat} {x z : Int} {h : eH} {Q : Option eV → eH → Prop} {S : List Int} {D : eD}
theorem s98_0 (h0 : a ≠ 0) : wp 98 0 [.inr a, l1] [] h Q ↔ wp 98 1 [.inr a, l1] [.inr a] h Q := wp_step dX9_init_0 (fun _ => if_neg h0)
theorem s98_1 (h8 : 8 ≤ a) : wp 98 1 [l0, l1] [.inr a] h Q ↔ wp 98 4 [l0, l1] [] h Q := w_callO dX9_init_1 (y2 := 0) (by decide +kernel) ⟨by simp, by decide +kernel, by decide +kernel⟩ h8
theorem s98_4 (h0 : a ≠ 0) : wp 98 4 [.inr a, l1] [] h Q ↔ wp 98 5 [.inr a, l1] [.inr a] h Q := wp_step dX9_init_4 (fun _ => if_neg h0)
theorem s98_5  : wp 98 5 [l0, l1] [v0] h Q ↔ wp 98 7 [l0, l1] [.inl 111, v0] h Q := w_const2 dX9_init_5 k_111 k8_111
theorem s98_12 (h0 : a ≠ 0) : wp 98 12 [.inr a, l1] [] h Q ↔ wp 98 13 [.inr a, l1] [.inr a] h Q := wp_step dX9_init_12 (fun _ => if_neg h0)
theorem s98_13  : wp 98 13 [l0, l1] [v0] h Q ↔ wp 98 15 [l0, l1] [.inl 111, v0] h Q := w_const2 dX9_init_13 k_111 k8_111
theorem s98_20 (h0 : a ≠ 0) : wp 98 20 [.inr a, l1] [] h Q ↔ wp 98 21 [.inr a, l1] [.inr a] h Q := wp_step dX9_init_20 (fun _ => if_neg h0)
theorem s98_21  : wp 98 21 [l0, l1] [v0] h Q ↔ wp 98 24 [l0, l1] [.inl 444, v0] h Q := w_const3 dX9_init_21 k_444 k16_444
theorem s98_29 (h0 : a ≠ 0) : wp 98 29 [.inr a, l1] [] h Q ↔ wp 98 30 [.inr a, l1] [.inr a] h Q := wp_step dX9_init_29 (fun _ => if_neg h0)
theorem s98_30  : wp 98 30 [l0, l1] [v0] h Q ↔ wp 98 32 [l0, l1] [.inl 111, v0] h Q := w_const2 dX9_init_30 k_111 k8_111
theorem s98_37 (h0 : a ≠ 0) : wp 98 37 [.inr a, l1] [] h Q ↔ wp 98 38 [.inr a, l1] [.inr a] h Q := wp_step dX9_init_37 (fun _ => if_neg h0)
theorem s98_38  : wp 98 38 [l0, l1] [v0] h Q ↔ wp 98 40 [l0, l1] [.inl 60, v0] h Q := w_const2 dX9_init_38 k_60 k8_60
theorem s98_45 (h0 : a ≠ 0) : wp 98 45 [.inr a, l1] [] h Q ↔ wp 98 46 [.inr a, l1] [.inr a] h Q := wp_step dX9_init_45 (fun _ => if_neg h0)
theorem s98_46  : wp 98 46 [l0, l1] [v0] h Q ↔ wp 98 48 [l0, l1] [.inl 48, v0] h Q := w_const2 dX9_init_46 k_48 k8_48
theorem s98_53 (h0 : a ≠ 0) : wp 98 53 [.inr a, l1] [] h Q ↔ wp 98 54 [.inr a, l1] [.inr a] h Q := wp_step dX9_init_53 (fun _ => if_neg h0)
theorem s98_57  : wp 98 57 [l0, l1] [v0] h Q ↔ wp 98 58 [l0, l1] [.inl 1, v0] h Q := w_const1 dX9_init_57 k_1
theorem s98_58  : wp 98 58 [l0, l1] [v0, v1] h Q ↔ wp 98 60 [l0, l1] [.inl 36, v0, v1] h Q := w_const2 dX9_init_58 k_36 k8_36
theorem s98_61 (h0 : a ≠ 0) : wp 98 61 [.inr a, l1] [] h Q ↔ wp 98 62 [.inr a, l1] [.inr a] h Q := wp_step dX9_init_61 (fun _ => if_neg h0)
theorem s98_65  : wp 98 65 [l0, l1] [v0] h Q ↔ wp 98 66 [l0, l1] [.inl 2, v0] h Q := w_const1 dX9_init_65 k_2
theorem s98_66  : wp 98 66 [l0, l1] [v0, v1] h Q ↔ wp 98 68 [l0, l1] [.inl 12, v0, v1] h Q := w_const2 dX9_init_66 k_12 k8_12
theorem s98_69 (h0 : a ≠ 0) : wp 98 69 [.inr a, l1] [] h Q ↔ wp 98 70 [.inr a, l1] [.inr a] h Q := wp_step dX9_init_69 (fun _ => if_neg h0)
theorem s98_73  : wp 98 73 [l0, l1] [v0] h Q ↔ wp 98 74 [l0, l1] [.inl 3, v0] h Q := w_const1 dX9_init_73 k_3
theorem s98_74  : wp 98 74 [l0, l1] [v0, v1] h Q ↔ wp 98 76 [l0, l1] [.inl 80, v0, v1] h Q := w_const2 dX9_init_74 k_80 k8_80
theorem s98_77 (h0 : a ≠ 0) : wp 98 77 [.inr a, l1] [] h Q ↔ wp 98 78 [.inr a, l1] [.inr a] h Q := wp_step dX9_init_77 (fun _ => if_neg h0)
theorem s98_81  : wp 98 81 [l0, l1] [v0] h Q ↔ wp 98 82 [l0, l1] [.inl 4, v0] h Q := w_const1 dX9_init_81 k_4
theorem s98_82  : wp 98 82 [l0, l1] [v0, v1] h Q ↔ wp 98 83 [l0, l1] [.inl 2, v0, v1] h Q := w_const1 dX9_init_82 k_2
theorem s98_84 (h0 : a ≠ 0) : wp 98 84 [.inr a, l1] [] h Q ↔ wp 98 85 [.inr a, l1] [.inr a] h Q := wp_step dX9_init_84 (fun _ => if_neg h0)
theorem s98_88  : wp 98 88 [l0, l1] [v0] h Q ↔ wp 98 89 [l0, l1] [.inl 5, v0] h Q := w_const1 dX9_init_88 k_5
theorem s98_89  : wp 98 89 [l0, l1] [v0, v1] h Q ↔ wp 98 90 [l0, l1] [.inl 2, v0, v1] h Q := w_const1 dX9_init_89 k_2
theorem s98_91 (h0 : a ≠ 0) : wp 98 91 [.inr a, l1] [] h Q ↔ wp 98 92 [.inr a, l1] [.inr a] h Q := wp_step dX9_init_91 (fun _ => if_neg h0)
theorem s98_95  : wp 98 95 [l0, l1] [v0] h Q ↔ wp 98 97 [l0, l1] [.inl 8, v0] h Q := w_const2 dX9_init_95 k_8 k8_8
theorem s98_97  : wp 98 97 [l0, l1] [v0, v1] h Q ↔ wp 98 99 [l0, l1] [.inl (-5), v0, v1] h Q := w_const2 dX9_init_97 k_m5 k8_m5
theorem s98_100  : wp 98 100 [l0, l1] [] h Q ↔ wp 98 101 [l0, l1] [.inl 0] h Q := w_const1 dX9_init_100 k_0
theorem s98_101  : wp 98 101 [l0, l1] [.inl x] h Q ↔ wp 98 102 [l0, .inl x] [] h Q := wp_step dX9_init_101 (fun _ => rfl)
theorem s98_102  : wp 98 102 [l0, .inl x] [] h Q ↔ wp 98 103 [l0, .inl x] [.inl x] h Q := wp_step dX9_init_102 (fun _ => rfl)
theorem s98_103  : wp 98 103 [l0, l1] [v0] h Q ↔ wp 98 105 [l0, l1] [.inl 6, v0] h Q := w_const2 dX9_init_103 k_6 k8_6
theorem s98_105  : wp 98 105 [l0, l1] [.inl z, .inl x] h Q ↔ if x < z then wp 98 108 [l0, l1] [] h Q else wp 98 122 [l0, l1] [] h Q := w_cge dX9_init_105 (by decide)
theorem s98_108 (h0 : a ≠ 0) : wp 98 108 [.inr a, l1] [] h Q ↔ wp 98 109 [.inr a, l1] [.inr a] h Q := wp_step dX9_init_108 (fun _ => if_neg h0)
theorem s98_112  : wp 98 112 [l0, .inl x] [v0] h Q ↔ wp 98 113 [l0, .inl x] [.inl x, v0] h Q := wp_step dX9_init_112 (fun _ => rfl)
theorem s98_113  : wp 98 113 [l0, l1] [p1, p0] h Q ↔ wp 108 0 [p0, p1] [] h (kont 98 116 [l0, l1] [] Q) := w_callS (y2 := 108) (kd := 0) (vs := [p0, p1]) (st := []) dX9_init_113 (by decide +kernel) (by decide) rfl (by decide +kernel) (Nat.le_of_ble_eq_true rfl) (by simp)
theorem s98_116  : wp 98 116 [l0, .inl x] [] h Q ↔ wp 98 119 [l0, .inl (w32 (x + 1))] [] h Q := wp_step dX9_init_116 (fun _ => rfl)
theorem s98_119  : wp 98 119 [l0, l1] [] h Q ↔ wp 98 102 [l0, l1] [] h Q := w_goto dX9_init_119 (by decide)
theorem s98_122  : wp 98 122 [l0, l1] [] h Q ↔ Q none h := w_retv dX9_init_122 (by decide +kernel)
theorem s99_0  : wp 99 0 [.inl x, l1, l2] [] h Q ↔ wp 99 1 [.inl x, l1, l2] [.inl x] h Q := wp_step dX9_in_0 (fun _ => rfl)
theorem s99_1  : wp 99 1 [l0, .inl x, l2] [v0] h Q ↔ wp 99 2 [l0, .inl x, l2] [.inl x, v0] h Q := wp_step dX9_in_1 (fun _ => rfl)
theorem s99_2  : wp 99 2 [l0, l1, l2] [.inl z, .inl x] h Q ↔ if x < z then wp 99 14 [l0, l1, l2] [] h Q else wp 99 5 [l0, l1, l2] [] h Q := w_clt dX9_in_2 (by decide)
theorem s99_5  : wp 99 5 [.inl x, l1, l2] [] h Q ↔ wp 99 6 [.inl x, l1, l2] [.inl x] h Q := wp_step dX9_in_5 (fun _ => rfl)
theorem s99_6  : wp 99 6 [l0, l1, .inl x] [v0] h Q ↔ wp 99 7 [l0, l1, .inl x] [.inl x, v0] h Q := wp_step dX9_in_6 (fun _ => rfl)
theorem s99_7  : wp 99 7 [l0, l1, l2] [.inl z, .inl x] h Q ↔ if z < x then wp 99 14 [l0, l1, l2] [] h Q else wp 99 10 [l0, l1, l2] [] h Q := w_cgt dX9_in_7 (by decide)
theorem s99_10  : wp 99 10 [l0, l1, l2] [] h Q ↔ wp 99 11 [l0, l1, l2] [.inl 1] h Q := w_const1 dX9_in_10 k_1
theorem s99_11  : wp 99 11 [l0, l1, l2] [v0] h Q ↔ wp 99 15 [l0, l1, l2] [v0] h Q := w_goto dX9_in_11 (by decide)
theorem s99_14  : wp 99 14 [l0, l1, l2] [] h Q ↔ wp 99 15 [l0, l1, l2] [.inl 0] h Q := w_const1 dX9_in_14 k_0
theorem s99_15 (h0 : x = 0 ∨ x = 1) : wp 99 15 [l0, l1, l2] [.inl x] h Q ↔ Q (some (.inl x)) h := w_reti dX9_in_15 (e_rz (by decide +kernel) h0)
theorem s100_0  : wp 100 0 [.inl x] [] h Q ↔ wp 100 1 [.inl x] [.inl x] h Q := wp_step dX9_isSocket_0 (fun _ => rfl)
theorem s100_1  : wp 100 1 [l0] [v0] h Q ↔ wp 100 2 [l0] [.inl 0, v0] h Q := w_const1 dX9_isSocket_1 k_0
theorem s100_2  : wp 100 2 [l0] [v0, v1] h Q ↔ wp 100 3 [l0] [.inl 5, v0, v1] h Q := w_const1 dX9_isSocket_2 k_5
theorem s100_3  : wp 100 3 [l0] [p2, p1, p0] h Q ↔ wp 99 0 [p0, p1, p2] [] h (kont 100 6 [l0] [] Q) := w_callS (y2 := 99) (kd := 0) (vs := [p0, p1, p2]) (st := []) dX9_isSocket_3 (by decide +kernel) (by decide) rfl (by decide +kernel) (Nat.le_of_ble_eq_true rfl) (by simp)
theorem s100_6 (h0 : x = 0 ∨ x = 1) : wp 100 6 [l0] [.inl x] h Q ↔ Q (some (.inl x)) h := w_reti dX9_isSocket_6 (e_rz (by decide +kernel) h0)
theorem s101_0  : wp 101 0 [l0, l1, l2, l3, l4] [] h Q ↔ wp 101 1 [l0, l1, l2, l3, l4] [.inl 0] h Q := w_const1 dX9_lays_0 k_0
theorem s101_1  : wp 101 1 [l0, l1, l2, l3, l4] [.inl x] h Q ↔ wp 101 3 [l0, l1, l2, l3, .inl x] [] h Q := wp_step dX9_lays_1 (fun _ => rfl)
theorem s101_3  : wp 101 3 [l0, l1, l2, l3, .inl x] [] h Q ↔ wp 101 5 [l0, l1, l2, l3, .inl x] [.inl x] h Q := wp_step dX9_lays_3 (fun _ => rfl)
theorem s101_5  : wp 101 5 [l0, l1, l2, l3, l4] [v0] h Q ↔ wp 101 7 [l0, l1, l2, l3, l4] [.inl 111, v0] h Q := w_const2 dX9_lays_5 k_111 k8_111
theorem s101_7  : wp 101 7 [l0, l1, l2, l3, l4] [.inl z, .inl x] h Q ↔ if x < z then wp 101 10 [l0, l1, l2, l3, l4] [] h Q else wp 101 28 [l0, l1, l2, l3, l4] [] h Q := w_cge dX9_lays_7 (by decide)
theorem s101_10 (h0 : a ≠ 0) : wp 101 10 [l0, l1, .inr a, l3, l4] [] h Q ↔ wp 101 11 [l0, l1, .inr a, l3, l4] [.inr a] h Q := wp_step dX9_lays_10 (fun _ => if_neg h0)
theorem s101_11  : wp 101 11 [l0, l1, l2, .inl x, l4] [v0] h Q ↔ wp 101 12 [l0, l1, l2, .inl x, l4] [.inl x, v0] h Q := wp_step dX9_lays_11 (fun _ => rfl)
theorem s101_12  : wp 101 12 [l0, l1, l2, l3, .inl x] [v0, v1] h Q ↔ wp 101 14 [l0, l1, l2, l3, .inl x] [.inl x, v0, v1] h Q := wp_step dX9_lays_12 (fun _ => rfl)
theorem s101_14  : wp 101 14 [l0, l1, l2, l3, l4] [.inl z, .inl x, v0] h Q ↔ wp 101 15 [l0, l1, l2, l3, l4] [.inl (w32 (x + z)), v0] h Q := wp_step dX9_lays_14 (fun _ => rfl)
theorem s101_15 (h0 : a ≠ 0) : wp 101 15 [.inr a, l1, l2, l3, l4] [v0, v1] h Q ↔ wp 101 16 [.inr a, l1, l2, l3, l4] [.inr a, v0, v1] h Q := wp_step dX9_lays_15 (fun _ => if_neg h0)
theorem s101_16  : wp 101 16 [l0, .inl x, l2, l3, l4] [v0, v1, v2] h Q ↔ wp 101 17 [l0, .inl x, l2, l3, l4] [.inl x, v0, v1, v2] h Q := wp_step dX9_lays_16 (fun _ => rfl)
theorem s101_17  : wp 101 17 [l0, l1, l2, l3, .inl x] [v0, v1, v2, v3] h Q ↔ wp 101 19 [l0, l1, l2, l3, .inl x] [.inl x, v0, v1, v2, v3] h Q := wp_step dX9_lays_17 (fun _ => rfl)
theorem s101_19  : wp 101 19 [l0, l1, l2, l3, l4] [.inl z, .inl x, v0, v1, v2] h Q ↔ wp 101 20 [l0, l1, l2, l3, l4] [.inl (w32 (x + z)), v0, v1, v2] h Q := wp_step dX9_lays_19 (fun _ => rfl)
theorem s101_20 (ha : tg a = 100) (h0 : 0 ≤ x) (h1 : x < ln S a) : wp 101 20 [l0, l1, l2, l3, l4] [.inl x, .inr a, v0, v1] (hp S D) Q ↔ wp 101 21 [l0, l1, l2, l3, l4] [.inl (rd S D a x.toNat), v0, v1] (hp S D) Q := w_iald dX9_lays_20 ha h0 h1
theorem s101_21 (ha : tg a = 100) (h8 : 8 ≤ a) (h0 : 0 ≤ x) (h1 : x < ln S a) : wp 101 21 [l0, l1, l2, l3, l4] [.inl z, .inl x, .inr a] (hp S D) Q ↔ wp 101 22 [l0, l1, l2, l3, l4] [] (hp S (up D a x.toNat z)) Q := w_iast dX9_lays_21 ha h8 h0 h1
theorem s101_22  : wp 101 22 [l0, l1, l2, l3, .inl x] [] h Q ↔ wp 101 25 [l0, l1, l2, l3, .inl (w32 (x + 1))] [] h Q := wp_step dX9_lays_22 (fun _ => rfl)
theorem s101_25  : wp 101 25 [l0, l1, l2, l3, l4] [] h Q ↔ wp 101 3 [l0, l1, l2, l3, l4] [] h Q := w_goto dX9_lays_25 (by decide)
theorem s101_28  : wp 101 28 [l0, l1, l2, l3, l4] [] h Q ↔ Q none h := w_retv dX9_lays_28 (by decide +kernel)
theorem s102_0 (h0 : a ≠ 0) : wp 102 0 [.inr a, l1] [] h Q ↔ wp 102 1 [.inr a, l1] [.inr a] h Q := wp_step dX9_records_0 (fun _ => if_neg h0)
theorem s102_1 (ha : tg a = 8) : wp 102 1 [l0, l1] [.inr a] (hp S D) Q ↔ wp 102 4 [l0, l1] [.inl (D a 3)] (hp S D) Q := w_getI dX9_records_1 (t := 8) (j := 3) (c := 0) (by decide +kernel) (by decide) rfl (ln_ok (by decide) (by decide)) ha
theorem s102_4  : wp 102 4 [l0, l1] [v0] h Q ↔ wp 102 5 [l0, l1] [.inl 4, v0] h Q := w_const1 dX9_records_4 k_4
theorem s102_5  : wp 102 5 [l0, l1] [.inl z, .inl x] h Q ↔ if x = z then wp 102 8 [l0, l1] [] h Q else wp 102 48 [l0, l1] [] h Q := w_cne dX9_records_5 (by decide)
theorem s102_8  : wp 102 8 [l0, l1] [] h Q ↔ wp 102 9 [l0, l1] [.inl 0] h Q := w_const1 dX9_records_8 k_0
theorem s102_9  : wp 102 9 [l0, l1] [.inl x] h Q ↔ wp 102 10 [l0, .inl x] [] h Q := wp_step dX9_records_9 (fun _ => rfl)
theorem s102_10  : wp 102 10 [l0, .inl x] [] h Q ↔ wp 102 11 [l0, .inl x] [.inl x] h Q := wp_step dX9_records_10 (fun _ => rfl)
theorem s102_11  : wp 102 11 [l0, l1] [v0] h Q ↔ wp 102 14 [l0, l1] [.inl 333, v0] h Q := w_const3 dX9_records_11 k_333 k16_333
theorem s102_14  : wp 102 14 [l0, l1] [.inl z, .inl x] h Q ↔ if x < z then wp 102 17 [l0, l1] [] h Q else wp 102 38 [l0, l1] [] h Q := w_cge dX9_records_14 (by decide)
theorem s102_17 (h0 : a ≠ 0) : wp 102 17 [.inr a, l1] [] h Q ↔ wp 102 18 [.inr a, l1] [.inr a] h Q := wp_step dX9_records_17 (fun _ => if_neg h0)
theorem s102_18 (ha : tg a = 8) : wp 102 18 [l0, l1] [.inr a] (hp S D) Q ↔ wp 102 21 [l0, l1] [.inr (a + 3)] (hp S D) Q := w_getR dX9_records_18 (t := 8) (j := 2) (c := 2) (by decide +kernel) (by decide) rfl (ln_ok (by decide) (by decide)) ha
theorem s102_21  : wp 102 21 [l0, .inl x] [v0] h Q ↔ wp 102 22 [l0, .inl x] [.inl x, v0] h Q := wp_step dX9_records_21 (fun _ => rfl)
theorem s102_22 (h0 : a ≠ 0) : wp 102 22 [.inr a, l1] [v0, v1] h Q ↔ wp 102 23 [.inr a, l1] [.inr a, v0, v1] h Q := wp_step dX9_records_22 (fun _ => if_neg h0)
theorem s102_23 (ha : tg a = 8) : wp 102 23 [l0, l1] [.inr a, v0, v1] (hp S D) Q ↔ wp 102 26 [l0, l1] [.inr (a + 3), v0, v1] (hp S D) Q := w_getR dX9_records_23 (t := 8) (j := 2) (c := 2) (by decide +kernel) (by decide) rfl (ln_ok (by decide) (by decide)) ha
theorem s102_26  : wp 102 26 [l0, .inl x] [v0, v1, v2] h Q ↔ wp 102 27 [l0, .inl x] [.inl x, v0, v1, v2] h Q := wp_step dX9_records_26 (fun _ => rfl)
theorem s102_27  : wp 102 27 [l0, l1] [v0, v1, v2, v3] h Q ↔ wp 102 29 [l0, l1] [.inl 111, v0, v1, v2, v3] h Q := w_const2 dX9_records_27 k_111 k8_111
theorem s102_29  : wp 102 29 [l0, l1] [.inl z, .inl x, v0, v1, v2] h Q ↔ wp 102 30 [l0, l1] [.inl (w32 (x + z)), v0, v1, v2] h Q := wp_step dX9_records_29 (fun _ => rfl)
theorem s102_30 (ha : tg a = 100) (h0 : 0 ≤ x) (h1 : x < ln S a) : wp 102 30 [l0, l1] [.inl x, .inr a, v0, v1] (hp S D) Q ↔ wp 102 31 [l0, l1] [.inl (rd S D a x.toNat), v0, v1] (hp S D) Q := w_iald dX9_records_30 ha h0 h1
theorem s102_31 (ha : tg a = 100) (h8 : 8 ≤ a) (h0 : 0 ≤ x) (h1 : x < ln S a) : wp 102 31 [l0, l1] [.inl z, .inl x, .inr a] (hp S D) Q ↔ wp 102 32 [l0, l1] [] (hp S (up D a x.toNat z)) Q := w_iast dX9_records_31 ha h8 h0 h1
theorem s102_32  : wp 102 32 [l0, .inl x] [] h Q ↔ wp 102 35 [l0, .inl (w32 (x + 1))] [] h Q := wp_step dX9_records_32 (fun _ => rfl)
theorem s102_35  : wp 102 35 [l0, l1] [] h Q ↔ wp 102 10 [l0, l1] [] h Q := w_goto dX9_records_35 (by decide)
theorem s102_38 (h0 : a ≠ 0) : wp 102 38 [.inr a, l1] [] h Q ↔ wp 102 39 [.inr a, l1] [.inr a] h Q := wp_step dX9_records_38 (fun _ => if_neg h0)
theorem s102_39  : wp 102 39 [l0, l1] [p] h Q ↔ wp 102 40 [l0, l1] [p, p] h Q := wp_step dX9_records_39 (fun _ => rfl)
theorem s102_40 (ha : tg a = 8) : wp 102 40 [l0, l1] [.inr a, v0] (hp S D) Q ↔ wp 102 43 [l0, l1] [.inl (D a 3), v0] (hp S D) Q := w_getI dX9_records_40 (t := 8) (j := 3) (c := 0) (by decide +kernel) (by decide) rfl (ln_ok (by decide) (by decide)) ha
theorem s102_43  : wp 102 43 [l0, l1] [v0, v1] h Q ↔ wp 102 44 [l0, l1] [.inl 1, v0, v1] h Q := w_const1 dX9_records_43 k_1
theorem s102_44  : wp 102 44 [l0, l1] [.inl z, .inl x, v0] h Q ↔ wp 102 45 [l0, l1] [.inl (w32 (x - z)), v0] h Q := wp_step dX9_records_44 (fun _ => rfl)
theorem s102_45 (ha : tg a = 8) : wp 102 45 [l0, l1] [.inl z, .inr a] (hp S D) Q ↔ wp 102 48 [l0, l1] [] (hp S (up D a 3 z)) Q := w_put dX9_records_45 (t := 8) (j := 3) (c := 0) (by decide +kernel) (by decide +kernel) (by decide) rfl (ln_ok (by decide) (by decide)) (Or.inl rfl) ha
theorem s102_48 (h0 : a ≠ 0) : wp 102 48 [.inr a, l1] [] h Q ↔ wp 102 49 [.inr a, l1] [.inr a] h Q := wp_step dX9_records_48 (fun _ => if_neg h0)
theorem s102_49 (ha : tg a = 8) : wp 102 49 [l0, l1] [.inr a] (hp S D) Q ↔ wp 102 52 [l0, l1] [.inr (a + 1)] (hp S D) Q := w_getR dX9_records_49 (t := 8) (j := 0) (c := 2) (by decide +kernel) (by decide) rfl (ln_ok (by decide) (by decide)) ha
theorem s102_52  : wp 102 52 [l0, l1] [v0] h Q ↔ wp 102 53 [l0, l1] [.inl 0, v0] h Q := w_const1 dX9_records_52 k_0
theorem s102_53 (h0 : a ≠ 0) : wp 102 53 [.inr a, l1] [v0, v1] h Q ↔ wp 102 54 [.inr a, l1] [.inr a, v0, v1] h Q := wp_step dX9_records_53 (fun _ => if_neg h0)
theorem s102_54 (ha : tg a = 8) : wp 102 54 [l0, l1] [.inr a, v0, v1] (hp S D) Q ↔ wp 102 57 [l0, l1] [.inr (a + 3), v0, v1] (hp S D) Q := w_getR dX9_records_54 (t := 8) (j := 2) (c := 2) (by decide +kernel) (by decide) rfl (ln_ok (by decide) (by decide)) ha
theorem s102_57  : wp 102 57 [l0, l1] [v0, v1, v2] h Q ↔ wp 102 59 [l0, l1] [.inl 111, v0, v1, v2] h Q := w_const2 dX9_records_57 k_111 k8_111
theorem s102_59 (h0 : a ≠ 0) : wp 102 59 [.inr a, l1] [v0, v1, v2, v3] h Q ↔ wp 102 60 [.inr a, l1] [.inr a, v0, v1, v2, v3] h Q := wp_step dX9_records_59 (fun _ => if_neg h0)
theorem s102_60 (ha : tg a = 8) : wp 102 60 [l0, l1] [.inr a, v0, v1, v2, v3] (hp S D) Q ↔ wp 102 63 [l0, l1] [.inl (D a 3), v0, v1, v2, v3] (hp S D) Q := w_getI dX9_records_60 (t := 8) (j := 3) (c := 0) (by decide +kernel) (by decide) rfl (ln_ok (by decide) (by decide)) ha
theorem s102_63  : wp 102 63 [l0, l1] [.inl z, .inl x, v0, v1, v2] h Q ↔ wp 102 64 [l0, l1] [.inl (w32 (x * z)), v0, v1, v2] h Q := wp_step dX9_records_63 (fun _ => rfl)
theorem s102_64  : wp 102 64 [l0, l1] [p3, p2, p1, p0] h Q ↔ wp 101 0 [p0, p1, p2, p3, .inr 0] [] h (kont 102 67 [l0, l1] [] Q) := w_callS (y2 := 101) (kd := 0) (vs := [p0, p1, p2, p3]) (st := []) dX9_records_64 (by decide +kernel) (by decide) rfl (by decide +kernel) (Nat.le_of_ble_eq_true rfl) (by simp)
theorem s102_67 (h0 : a ≠ 0) : wp 102 67 [.inr a, l1] [] h Q ↔ wp 102 68 [.inr a, l1] [.inr a] h Q := wp_step dX9_records_67 (fun _ => if_neg h0)
theorem s102_68  : wp 102 68 [l0, l1] [p] h Q ↔ wp 102 69 [l0, l1] [p, p] h Q := wp_step dX9_records_68 (fun _ => rfl)
theorem s102_69 (ha : tg a = 8) : wp 102 69 [l0, l1] [.inr a, v0] (hp S D) Q ↔ wp 102 72 [l0, l1] [.inl (D a 3), v0] (hp S D) Q := w_getI dX9_records_69 (t := 8) (j := 3) (c := 0) (by decide +kernel) (by decide) rfl (ln_ok (by decide) (by decide)) ha
theorem s102_72  : wp 102 72 [l0, l1] [v0, v1] h Q ↔ wp 102 73 [l0, l1] [.inl 1, v0, v1] h Q := w_const1 dX9_records_72 k_1
theorem s102_73  : wp 102 73 [l0, l1] [.inl z, .inl x, v0] h Q ↔ wp 102 74 [l0, l1] [.inl (w32 (x + z)), v0] h Q := wp_step dX9_records_73 (fun _ => rfl)
theorem s102_74 (ha : tg a = 8) : wp 102 74 [l0, l1] [.inl z, .inr a] (hp S D) Q ↔ wp 102 77 [l0, l1] [] (hp S (up D a 3 z)) Q := w_put dX9_records_74 (t := 8) (j := 3) (c := 0) (by decide +kernel) (by decide +kernel) (by decide) rfl (ln_ok (by decide) (by decide)) (Or.inl rfl) ha
theorem s102_77  : wp 102 77 [l0, l1] [] h Q ↔ Q none h := w_retv dX9_records_77 (by decide +kernel)
theorem s103_0 (h0 : a ≠ 0) : wp 103 0 [.inr a] [] h Q ↔ wp 103 1 [.inr a] [.inr a] h Q := wp_step dX9_undo_0 (fun _ => if_neg h0)
theorem s103_1 (ha : tg a = 8) : wp 103 1 [l0] [.inr a] (hp S D) Q ↔ wp 103 4 [l0] [.inl (D a 3)] (hp S D) Q := w_getI dX9_undo_1 (t := 8) (j := 3) (c := 0) (by decide +kernel) (by decide) rfl (ln_ok (by decide) (by decide)) ha
theorem s103_4  : wp 103 4 [l0] [.inl x] h Q ↔ if x = 0 then wp 103 7 [l0] [] h Q else wp 103 10 [l0] [] h Q := w_ne0 dX9_undo_4 (by decide)
theorem s103_7  : wp 103 7 [l0] [] h Q ↔ wp 103 9 [l0] [.inl (-5)] h Q := w_const2 dX9_undo_7 k_m5 k8_m5
theorem s103_9  : wp 103 9 [l0] [.inl x] h Q ↔ Q (some (.inl x)) h := w_reti dX9_undo_9 (e_ri (by decide +kernel))
theorem s103_10 (h0 : a ≠ 0) : wp 103 10 [.inr a] [] h Q ↔ wp 103 11 [.inr a] [.inr a] h Q := wp_step dX9_undo_10 (fun _ => if_neg h0)
theorem s103_11  : wp 103 11 [l0] [p] h Q ↔ wp 103 12 [l0] [p, p] h Q := wp_step dX9_undo_11 (fun _ => rfl)
theorem s103_12 (ha : tg a = 8) : wp 103 12 [l0] [.inr a, v0] (hp S D) Q ↔ wp 103 15 [l0] [.inl (D a 3), v0] (hp S D) Q := w_getI dX9_undo_12 (t := 8) (j := 3) (c := 0) (by decide +kernel) (by decide) rfl (ln_ok (by decide) (by decide)) ha
theorem s103_15  : wp 103 15 [l0] [v0, v1] h Q ↔ wp 103 16 [l0] [.inl 1, v0, v1] h Q := w_const1 dX9_undo_15 k_1
theorem s103_16  : wp 103 16 [l0] [.inl z, .inl x, v0] h Q ↔ wp 103 17 [l0] [.inl (w32 (x - z)), v0] h Q := wp_step dX9_undo_16 (fun _ => rfl)
theorem s103_17 (ha : tg a = 8) : wp 103 17 [l0] [.inl z, .inr a] (hp S D) Q ↔ wp 103 20 [l0] [] (hp S (up D a 3 z)) Q := w_put dX9_undo_17 (t := 8) (j := 3) (c := 0) (by decide +kernel) (by decide +kernel) (by decide) rfl (ln_ok (by decide) (by decide)) (Or.inl rfl) ha
theorem s103_20 (h0 : a ≠ 0) : wp 103 20 [.inr a] [] h Q ↔ wp 103 21 [.inr a] [.inr a] h Q := wp_step dX9_undo_20 (fun _ => if_neg h0)
theorem s103_21 (ha : tg a = 8) : wp 103 21 [l0] [.inr a] (hp S D) Q ↔ wp 103 24 [l0] [.inr (a + 3)] (hp S D) Q := w_getR dX9_undo_21 (t := 8) (j := 2) (c := 2) (by decide +kernel) (by decide) rfl (ln_ok (by decide) (by decide)) ha
theorem s103_24  : wp 103 24 [l0] [v0] h Q ↔ wp 103 26 [l0] [.inl 111, v0] h Q := w_const2 dX9_undo_24 k_111 k8_111
theorem s103_26 (h0 : a ≠ 0) : wp 103 26 [.inr a] [v0, v1] h Q ↔ wp 103 27 [.inr a] [.inr a, v0, v1] h Q := wp_step dX9_undo_26 (fun _ => if_neg h0)
theorem s103_27 (ha : tg a = 8) : wp 103 27 [l0] [.inr a, v0, v1] (hp S D) Q ↔ wp 103 30 [l0] [.inl (D a 3), v0, v1] (hp S D) Q := w_getI dX9_undo_27 (t := 8) (j := 3) (c := 0) (by decide +kernel) (by decide) rfl (ln_ok (by decide) (by decide)) ha
theorem s103_30  : wp 103 30 [l0] [.inl z, .inl x, v0] h Q ↔ wp 103 31 [l0] [.inl (w32 (x * z)), v0] h Q := wp_step dX9_undo_30 (fun _ => rfl)
theorem s103_31 (h0 : a ≠ 0) : wp 103 31 [.inr a] [v0, v1] h Q ↔ wp 103 32 [.inr a] [.inr a, v0, v1] h Q := wp_step dX9_undo_31 (fun _ => if_neg h0)
theorem s103_32 (ha : tg a = 8) : wp 103 32 [l0] [.inr a, v0, v1] (hp S D) Q ↔ wp 103 35 [l0] [.inr (a + 1), v0, v1] (hp S D) Q := w_getR dX9_undo_32 (t := 8) (j := 0) (c := 2) (by decide +kernel) (by decide) rfl (ln_ok (by decide) (by decide)) ha
theorem s103_35  : wp 103 35 [l0] [v0, v1, v2] h Q ↔ wp 103 36 [l0] [.inl 0, v0, v1, v2] h Q := w_const1 dX9_undo_35 k_0
theorem s103_36  : wp 103 36 [l0] [p3, p2, p1, p0] h Q ↔ wp 101 0 [p0, p1, p2, p3, .inr 0] [] h (kont 103 39 [l0] [] Q) := w_callS (y2 := 101) (kd := 0) (vs := [p0, p1, p2, p3]) (st := []) dX9_undo_36 (by decide +kernel) (by decide) rfl (by decide +kernel) (Nat.le_of_ble_eq_true rfl) (by simp)
theorem s103_39 (h0 : a ≠ 0) : wp 103 39 [.inr a] [] h Q ↔ wp 103 40 [.inr a] [.inr a] h Q := wp_step dX9_undo_39 (fun _ => if_neg h0)
theorem s103_40 (ha : tg a = 8) : wp 103 40 [l0] [.inr a] (hp S D) Q ↔ wp 103 43 [l0] [.inl (D a 3)] (hp S D) Q := w_getI dX9_undo_40 (t := 8) (j := 3) (c := 0) (by decide +kernel) (by decide) rfl (ln_ok (by decide) (by decide)) ha
theorem s103_43  : wp 103 43 [l0] [.inl x] h Q ↔ Q (some (.inl x)) h := w_reti dX9_undo_43 (e_ri (by decide +kernel))
theorem s104_0 (h0 : a ≠ 0) : wp 104 0 [.inr a] [] h Q ↔ wp 104 1 [.inr a] [.inr a] h Q := wp_step dX9_keep_0 (fun _ => if_neg h0)
theorem s104_1 (ha : tg a = 8) : wp 104 1 [l0] [.inr a] (hp S D) Q ↔ wp 104 4 [l0] [.inr (a + 1)] (hp S D) Q := w_getR dX9_keep_1 (t := 8) (j := 0) (c := 2) (by decide +kernel) (by decide) rfl (ln_ok (by decide) (by decide)) ha
theorem s104_4  : wp 104 4 [l0] [v0] h Q ↔ wp 104 5 [l0] [.inl 0, v0] h Q := w_const1 dX9_keep_4 k_0
theorem s104_5 (h0 : a ≠ 0) : wp 104 5 [.inr a] [v0, v1] h Q ↔ wp 104 6 [.inr a] [.inr a, v0, v1] h Q := wp_step dX9_keep_5 (fun _ => if_neg h0)
theorem s104_6 (ha : tg a = 8) : wp 104 6 [l0] [.inr a, v0, v1] (hp S D) Q ↔ wp 104 9 [l0] [.inr (a + 4), v0, v1] (hp S D) Q := w_getR dX9_keep_6 (t := 8) (j := 4) (c := 2) (by decide +kernel) (by decide) rfl (ln_ok (by decide) (by decide)) ha
theorem s104_9  : wp 104 9 [l0] [v0, v1, v2] h Q ↔ wp 104 10 [l0] [.inl 0, v0, v1, v2] h Q := w_const1 dX9_keep_9 k_0
theorem s104_10  : wp 104 10 [l0] [p3, p2, p1, p0] h Q ↔ wp 101 0 [p0, p1, p2, p3, .inr 0] [] h (kont 104 13 [l0] [] Q) := w_callS (y2 := 101) (kd := 0) (vs := [p0, p1, p2, p3]) (st := []) dX9_keep_10 (by decide +kernel) (by decide) rfl (by decide +kernel) (Nat.le_of_ble_eq_true rfl) (by simp)
theorem s104_13 (h0 : a ≠ 0) : wp 104 13 [.inr a] [] h Q ↔ wp 104 14 [.inr a] [.inr a] h Q := wp_step dX9_keep_13 (fun _ => if_neg h0)
theorem s104_14  : wp 104 14 [l0] [v0] h Q ↔ wp 104 15 [l0] [.inl 1, v0] h Q := w_const1 dX9_keep_14 k_1
theorem s104_15 (ha : tg a = 8) (hv : z = 0 ∨ z = 1) : wp 104 15 [l0] [.inl z, .inr a] (hp S D) Q ↔ wp 104 18 [l0] [] (hp S (up D a 5 z)) Q := w_put dX9_keep_15 (t := 8) (j := 5) (c := 1) (by decide +kernel) (by decide +kernel) (by decide) rfl (ln_ok (by decide) (by decide)) (Or.inr ⟨rfl, hv⟩) ha
theorem s104_18 (h0 : a ≠ 0) : wp 104 18 [.inr a] [] h Q ↔ wp 104 19 [.inr a] [.inr a] h Q := wp_step dX9_keep_18 (fun _ => if_neg h0)
theorem s104_19 (ha : tg a = 8) : wp 104 19 [l0] [.inr a] (hp S D) Q ↔ wp 104 22 [l0] [.inr (a + 1)] (hp S D) Q := w_getR dX9_keep_19 (t := 8) (j := 0) (c := 2) (by decide +kernel) (by decide) rfl (ln_ok (by decide) (by decide)) ha
theorem s104_22  : wp 104 22 [l0] [v0] h Q ↔ wp 104 23 [l0] [.inl 0, v0] h Q := w_const1 dX9_keep_22 k_0
theorem s104_23 (ha : tg a = 100) (h0 : 0 ≤ x) (h1 : x < ln S a) : wp 104 23 [l0] [.inl x, .inr a] (hp S D) Q ↔ wp 104 24 [l0] [.inl (rd S D a x.toNat)] (hp S D) Q := w_iald dX9_keep_23 ha h0 h1
theorem s104_24  : wp 104 24 [l0] [.inl x] h Q ↔ Q (some (.inl x)) h := w_reti dX9_keep_24 (e_ri (by decide +kernel))
theorem s105_0 (h0 : a ≠ 0) : wp 105 0 [.inr a] [] h Q ↔ wp 105 1 [.inr a] [.inr a] h Q := wp_step dX9_restore_0 (fun _ => if_neg h0)
theorem s105_1 (ha : tg a = 8) : wp 105 1 [l0] [.inr a] (hp S D) Q ↔ wp 105 4 [l0] [.inl (D a 5)] (hp S D) Q := w_getI dX9_restore_1 (t := 8) (j := 5) (c := 1) (by decide +kernel) (by decide) rfl (ln_ok (by decide) (by decide)) ha
theorem s105_4  : wp 105 4 [l0] [.inl x] h Q ↔ if x = 0 then wp 105 7 [l0] [] h Q else wp 105 10 [l0] [] h Q := w_ne0 dX9_restore_4 (by decide)
theorem s105_7  : wp 105 7 [l0] [] h Q ↔ wp 105 9 [l0] [.inl (-5)] h Q := w_const2 dX9_restore_7 k_m5 k8_m5
theorem s105_9  : wp 105 9 [l0] [.inl x] h Q ↔ Q (some (.inl x)) h := w_reti dX9_restore_9 (e_ri (by decide +kernel))
theorem s105_10 (h0 : a ≠ 0) : wp 105 10 [.inr a] [] h Q ↔ wp 105 11 [.inr a] [.inr a] h Q := wp_step dX9_restore_10 (fun _ => if_neg h0)
theorem s105_11 (ha : tg a = 8) : wp 105 11 [l0] [.inr a] (hp S D) Q ↔ wp 102 0 [.inr a, .inr 0] [] (hp S D) (kont 105 14 [l0] [] Q) := w_callV (y2 := 102) (vs := []) (st := []) dX9_restore_11 (by decide +kernel) rfl (by decide +kernel) (Nat.le_of_ble_eq_true rfl) (by simp) 8 rfl (by decide) ha
theorem s105_14 (h0 : a ≠ 0) : wp 105 14 [.inr a] [] h Q ↔ wp 105 15 [.inr a] [.inr a] h Q := wp_step dX9_restore_14 (fun _ => if_neg h0)
theorem s105_15 (ha : tg a = 8) : wp 105 15 [l0] [.inr a] (hp S D) Q ↔ wp 105 18 [l0] [.inr (a + 4)] (hp S D) Q := w_getR dX9_restore_15 (t := 8) (j := 4) (c := 2) (by decide +kernel) (by decide) rfl (ln_ok (by decide) (by decide)) ha
theorem s105_18  : wp 105 18 [l0] [v0] h Q ↔ wp 105 19 [l0] [.inl 0, v0] h Q := w_const1 dX9_restore_18 k_0
theorem s105_19 (h0 : a ≠ 0) : wp 105 19 [.inr a] [v0, v1] h Q ↔ wp 105 20 [.inr a] [.inr a, v0, v1] h Q := wp_step dX9_restore_19 (fun _ => if_neg h0)
theorem s105_20 (ha : tg a = 8) : wp 105 20 [l0] [.inr a, v0, v1] (hp S D) Q ↔ wp 105 23 [l0] [.inr (a + 1), v0, v1] (hp S D) Q := w_getR dX9_restore_20 (t := 8) (j := 0) (c := 2) (by decide +kernel) (by decide) rfl (ln_ok (by decide) (by decide)) ha
theorem s105_23  : wp 105 23 [l0] [v0, v1, v2] h Q ↔ wp 105 24 [l0] [.inl 0, v0, v1, v2] h Q := w_const1 dX9_restore_23 k_0
theorem s105_24  : wp 105 24 [l0] [p3, p2, p1, p0] h Q ↔ wp 101 0 [p0, p1, p2, p3, .inr 0] [] h (kont 105 27 [l0] [] Q) := w_callS (y2 := 101) (kd := 0) (vs := [p0, p1, p2, p3]) (st := []) dX9_restore_24 (by decide +kernel) (by decide) rfl (by decide +kernel) (Nat.le_of_ble_eq_true rfl) (by simp)
theorem s105_27 (h0 : a ≠ 0) : wp 105 27 [.inr a] [] h Q ↔ wp 105 28 [.inr a] [.inr a] h Q := wp_step dX9_restore_27 (fun _ => if_neg h0)
theorem s105_28 (ha : tg a = 8) : wp 105 28 [l0] [.inr a] (hp S D) Q ↔ wp 105 31 [l0] [.inr (a + 1)] (hp S D) Q := w_getR dX9_restore_28 (t := 8) (j := 0) (c := 2) (by decide +kernel) (by decide) rfl (ln_ok (by decide) (by decide)) ha
theorem s105_31  : wp 105 31 [l0] [v0] h Q ↔ wp 105 32 [l0] [.inl 0, v0] h Q := w_const1 dX9_restore_31 k_0
theorem s105_32 (ha : tg a = 100) (h0 : 0 ≤ x) (h1 : x < ln S a) : wp 105 32 [l0] [.inl x, .inr a] (hp S D) Q ↔ wp 105 33 [l0] [.inl (rd S D a x.toNat)] (hp S D) Q := w_iald dX9_restore_32 ha h0 h1
theorem s105_33  : wp 105 33 [l0] [.inl x] h Q ↔ Q (some (.inl x)) h := w_reti dX9_restore_33 (e_ri (by decide +kernel))
theorem s106_0 (h0 : a ≠ 0) : wp 106 0 [.inr a, l1, l2] [] h Q ↔ wp 106 1 [.inr a, l1, l2] [.inr a] h Q := wp_step dX9_of_0 (fun _ => if_neg h0)
theorem s106_1  : wp 106 1 [l0, l1, l2] [v0] h Q ↔ wp 106 3 [l0, l1, l2] [.inl 11, v0] h Q := w_const2 dX9_of_1 k_11 k8_11
theorem s106_3  : wp 106 3 [l0, l1, l2] [v0, v1] h Q ↔ wp 106 4 [l0, l1, l2] [.inl 5, v0, v1] h Q := w_const1 dX9_of_3 k_5
theorem s106_4  : wp 106 4 [l0, .inl x, l2] [v0, v1, v2] h Q ↔ wp 106 5 [l0, .inl x, l2] [.inl x, v0, v1, v2] h Q := wp_step dX9_of_4 (fun _ => rfl)
theorem s106_5  : wp 106 5 [l0, l1, l2] [.inl z, .inl x, v0, v1] h Q ↔ wp 106 6 [l0, l1, l2] [.inl (w32 (x * z)), v0, v1] h Q := wp_step dX9_of_5 (fun _ => rfl)
theorem s106_6  : wp 106 6 [l0, l1, l2] [.inl z, .inl x, v0] h Q ↔ wp 106 7 [l0, l1, l2] [.inl (w32 (x + z)), v0] h Q := wp_step dX9_of_6 (fun _ => rfl)
theorem s106_7  : wp 106 7 [l0, l1, .inl x] [v0, v1] h Q ↔ wp 106 8 [l0, l1, .inl x] [.inl x, v0, v1] h Q := wp_step dX9_of_7 (fun _ => rfl)
theorem s106_8  : wp 106 8 [l0, l1, l2] [.inl z, .inl x, v0] h Q ↔ wp 106 9 [l0, l1, l2] [.inl (w32 (x + z)), v0] h Q := wp_step dX9_of_8 (fun _ => rfl)
theorem s106_9 (ha : tg a = 100) (h0 : 0 ≤ x) (h1 : x < ln S a) : wp 106 9 [l0, l1, l2] [.inl x, .inr a] (hp S D) Q ↔ wp 106 10 [l0, l1, l2] [.inl (rd S D a x.toNat)] (hp S D) Q := w_iald dX9_of_9 ha h0 h1
theorem s106_10  : wp 106 10 [l0, l1, l2] [.inl x] h Q ↔ Q (some (.inl x)) h := w_reti dX9_of_10 (e_ri (by decide +kernel))
theorem s107_0 (h0 : a ≠ 0) : wp 107 0 [.inr a, l1, l2, l3] [] h Q ↔ wp 107 1 [.inr a, l1, l2, l3] [.inr a] h Q := wp_step dX9_puts_0 (fun _ => if_neg h0)
theorem s107_1  : wp 107 1 [l0, l1, l2, l3] [v0] h Q ↔ wp 107 3 [l0, l1, l2, l3] [.inl 11, v0] h Q := w_const2 dX9_puts_1 k_11 k8_11
theorem s107_3  : wp 107 3 [l0, l1, l2, l3] [v0, v1] h Q ↔ wp 107 4 [l0, l1, l2, l3] [.inl 5, v0, v1] h Q := w_const1 dX9_puts_3 k_5
theorem s107_4  : wp 107 4 [l0, .inl x, l2, l3] [v0, v1, v2] h Q ↔ wp 107 5 [l0, .inl x, l2, l3] [.inl x, v0, v1, v2] h Q := wp_step dX9_puts_4 (fun _ => rfl)
theorem s107_5  : wp 107 5 [l0, l1, l2, l3] [.inl z, .inl x, v0, v1] h Q ↔ wp 107 6 [l0, l1, l2, l3] [.inl (w32 (x * z)), v0, v1] h Q := wp_step dX9_puts_5 (fun _ => rfl)
theorem s107_6  : wp 107 6 [l0, l1, l2, l3] [.inl z, .inl x, v0] h Q ↔ wp 107 7 [l0, l1, l2, l3] [.inl (w32 (x + z)), v0] h Q := wp_step dX9_puts_6 (fun _ => rfl)
theorem s107_7  : wp 107 7 [l0, l1, .inl x, l3] [v0, v1] h Q ↔ wp 107 8 [l0, l1, .inl x, l3] [.inl x, v0, v1] h Q := wp_step dX9_puts_7 (fun _ => rfl)
theorem s107_8  : wp 107 8 [l0, l1, l2, l3] [.inl z, .inl x, v0] h Q ↔ wp 107 9 [l0, l1, l2, l3] [.inl (w32 (x + z)), v0] h Q := wp_step dX9_puts_8 (fun _ => rfl)
theorem s107_9  : wp 107 9 [l0, l1, l2, .inl x] [v0, v1] h Q ↔ wp 107 10 [l0, l1, l2, .inl x] [.inl x, v0, v1] h Q := wp_step dX9_puts_9 (fun _ => rfl)
theorem s107_10 (ha : tg a = 100) (h8 : 8 ≤ a) (h0 : 0 ≤ x) (h1 : x < ln S a) : wp 107 10 [l0, l1, l2, l3] [.inl z, .inl x, .inr a] (hp S D) Q ↔ wp 107 11 [l0, l1, l2, l3] [] (hp S (up D a x.toNat z)) Q := w_iast dX9_puts_10 ha h8 h0 h1
theorem s107_11  : wp 107 11 [l0, l1, l2, l3] [] h Q ↔ Q none h := w_retv dX9_puts_11 (by decide +kernel)
theorem s108_0 (h0 : a ≠ 0) : wp 108 0 [.inr a, l1] [] h Q ↔ wp 108 1 [.inr a, l1] [.inr a] h Q := wp_step dX9_empties_0 (fun _ => if_neg h0)
theorem s108_1  : wp 108 1 [l0, .inl x] [v0] h Q ↔ wp 108 2 [l0, .inl x] [.inl x, v0] h Q := wp_step dX9_empties_1 (fun _ => rfl)
theorem s108_2  : wp 108 2 [l0, l1] [v0, v1] h Q ↔ wp 108 3 [l0, l1] [.inl 0, v0, v1] h Q := w_const1 dX9_empties_2 k_0
theorem s108_3  : wp 108 3 [l0, l1] [v0, v1, v2] h Q ↔ wp 108 5 [l0, l1] [.inl (-5), v0, v1, v2] h Q := w_const2 dX9_empties_3 k_m5 k8_m5
theorem s108_5  : wp 108 5 [l0, l1] [p3, p2, p1, p0] h Q ↔ wp 107 0 [p0, p1, p2, p3] [] h (kont 108 8 [l0, l1] [] Q) := w_callS (y2 := 107) (kd := 0) (vs := [p0, p1, p2, p3]) (st := []) dX9_empties_5 (by decide +kernel) (by decide) rfl (by decide +kernel) (Nat.le_of_ble_eq_true rfl) (by simp)
theorem s108_8  : wp 108 8 [l0, l1] [] h Q ↔ Q none h := w_retv dX9_empties_8 (by decide +kernel)
theorem s109_0 (h0 : a ≠ 0) : wp 109 0 [.inr a, l1] [] h Q ↔ wp 109 1 [.inr a, l1] [.inr a] h Q := wp_step dX9_isThere_0 (fun _ => if_neg h0)
theorem s109_1  : wp 109 1 [l0, .inl x] [v0] h Q ↔ wp 109 2 [l0, .inl x] [.inl x, v0] h Q := wp_step dX9_isThere_1 (fun _ => rfl)
theorem s109_2  : wp 109 2 [l0, l1] [v0, v1] h Q ↔ wp 109 3 [l0, l1] [.inl 0, v0, v1] h Q := w_const1 dX9_isThere_2 k_0
theorem s109_3  : wp 109 3 [l0, l1] [p2, p1, p0] h Q ↔ wp 106 0 [p0, p1, p2] [] h (kont 109 6 [l0, l1] [] Q) := w_callS (y2 := 106) (kd := 0) (vs := [p0, p1, p2]) (st := []) dX9_isThere_3 (by decide +kernel) (by decide) rfl (by decide +kernel) (Nat.le_of_ble_eq_true rfl) (by simp)
theorem s109_6  : wp 109 6 [l0, l1] [v0] h Q ↔ wp 109 8 [l0, l1] [.inl (-5), v0] h Q := w_const2 dX9_isThere_6 k_m5 k8_m5
theorem s109_8  : wp 109 8 [l0, l1] [.inl z, .inl x] h Q ↔ if x = z then wp 109 15 [l0, l1] [] h Q else wp 109 11 [l0, l1] [] h Q := w_ceq dX9_isThere_8 (by decide)
theorem s109_11  : wp 109 11 [l0, l1] [] h Q ↔ wp 109 12 [l0, l1] [.inl 1] h Q := w_const1 dX9_isThere_11 k_1
theorem s109_12  : wp 109 12 [l0, l1] [v0] h Q ↔ wp 109 16 [l0, l1] [v0] h Q := w_goto dX9_isThere_12 (by decide)
theorem s109_15  : wp 109 15 [l0, l1] [] h Q ↔ wp 109 16 [l0, l1] [.inl 0] h Q := w_const1 dX9_isThere_15 k_0
theorem s109_16 (h0 : x = 0 ∨ x = 1) : wp 109 16 [l0, l1] [.inl x] h Q ↔ Q (some (.inl x)) h := w_reti dX9_isThere_16 (e_rz (by decide +kernel) h0)
theorem s110_0 (h0 : a ≠ 0) : wp 110 0 [.inr a, l1, l2, l3] [] h Q ↔ wp 110 1 [.inr a, l1, l2, l3] [.inr a] h Q := wp_step dX9_comes_0 (fun _ => if_neg h0)
theorem s110_1  : wp 110 1 [l0, .inl x, l2, l3] [v0] h Q ↔ wp 110 2 [l0, .inl x, l2, l3] [.inl x, v0] h Q := wp_step dX9_comes_1 (fun _ => rfl)
theorem s110_2  : wp 110 2 [l0, l1, l2, l3] [v0, v1] h Q ↔ wp 110 3 [l0, l1, l2, l3] [.inl 0, v0, v1] h Q := w_const1 dX9_comes_2 k_0
theorem s110_3  : wp 110 3 [l0, l1, .inl x, l3] [v0, v1, v2] h Q ↔ wp 110 4 [l0, l1, .inl x, l3] [.inl x, v0, v1, v2] h Q := wp_step dX9_comes_3 (fun _ => rfl)
theorem s110_4  : wp 110 4 [l0, l1, l2, l3] [p3, p2, p1, p0] h Q ↔ wp 107 0 [p0, p1, p2, p3] [] h (kont 110 7 [l0, l1, l2, l3] [] Q) := w_callS (y2 := 107) (kd := 0) (vs := [p0, p1, p2, p3]) (st := []) dX9_comes_4 (by decide +kernel) (by decide) rfl (by decide +kernel) (Nat.le_of_ble_eq_true rfl) (by simp)
theorem s110_7 (h0 : a ≠ 0) : wp 110 7 [.inr a, l1, l2, l3] [] h Q ↔ wp 110 8 [.inr a, l1, l2, l3] [.inr a] h Q := wp_step dX9_comes_7 (fun _ => if_neg h0)
theorem s110_8  : wp 110 8 [l0, .inl x, l2, l3] [v0] h Q ↔ wp 110 9 [l0, .inl x, l2, l3] [.inl x, v0] h Q := wp_step dX9_comes_8 (fun _ => rfl)
theorem s110_9  : wp 110 9 [l0, l1, l2, l3] [v0, v1] h Q ↔ wp 110 10 [l0, l1, l2, l3] [.inl 1, v0, v1] h Q := w_const1 dX9_comes_9 k_1
theorem s110_10  : wp 110 10 [l0, l1, l2, .inl x] [v0, v1, v2] h Q ↔ wp 110 11 [l0, l1, l2, .inl x] [.inl x, v0, v1, v2] h Q := wp_step dX9_comes_10 (fun _ => rfl)
theorem s110_11  : wp 110 11 [l0, l1, l2, l3] [p3, p2, p1, p0] h Q ↔ wp 107 0 [p0, p1, p2, p3] [] h (kont 110 14 [l0, l1, l2, l3] [] Q) := w_callS (y2 := 107) (kd := 0) (vs := [p0, p1, p2, p3]) (st := []) dX9_comes_11 (by decide +kernel) (by decide) rfl (by decide +kernel) (Nat.le_of_ble_eq_true rfl) (by simp)
theorem s110_14 (h0 : a ≠ 0) : wp 110 14 [.inr a, l1, l2, l3] [] h Q ↔ wp 110 15 [.inr a, l1, l2, l3] [.inr a] h Q := wp_step dX9_comes_14 (fun _ => if_neg h0)
theorem s110_15  : wp 110 15 [l0, .inl x, l2, l3] [v0] h Q ↔ wp 110 16 [l0, .inl x, l2, l3] [.inl x, v0] h Q := wp_step dX9_comes_15 (fun _ => rfl)
theorem s110_16  : wp 110 16 [l0, l1, l2, l3] [v0, v1] h Q ↔ wp 110 17 [l0, l1, l2, l3] [.inl 2, v0, v1] h Q := w_const1 dX9_comes_16 k_2
theorem s110_17  : wp 110 17 [l0, l1, l2, l3] [v0, v1, v2] h Q ↔ wp 110 18 [l0, l1, l2, l3] [.inl 0, v0, v1, v2] h Q := w_const1 dX9_comes_17 k_0
theorem s110_18  : wp 110 18 [l0, l1, l2, l3] [p3, p2, p1, p0] h Q ↔ wp 107 0 [p0, p1, p2, p3] [] h (kont 110 21 [l0, l1, l2, l3] [] Q) := w_callS (y2 := 107) (kd := 0) (vs := [p0, p1, p2, p3]) (st := []) dX9_comes_18 (by decide +kernel) (by decide) rfl (by decide +kernel) (Nat.le_of_ble_eq_true rfl) (by simp)
theorem s110_21 (h0 : a ≠ 0) : wp 110 21 [.inr a, l1, l2, l3] [] h Q ↔ wp 110 22 [.inr a, l1, l2, l3] [.inr a] h Q := wp_step dX9_comes_21 (fun _ => if_neg h0)
theorem s110_22  : wp 110 22 [l0, .inl x, l2, l3] [v0] h Q ↔ wp 110 23 [l0, .inl x, l2, l3] [.inl x, v0] h Q := wp_step dX9_comes_22 (fun _ => rfl)
theorem s110_23  : wp 110 23 [l0, l1, l2, l3] [v0, v1] h Q ↔ wp 110 24 [l0, l1, l2, l3] [.inl 3, v0, v1] h Q := w_const1 dX9_comes_23 k_3
theorem s110_24  : wp 110 24 [l0, l1, l2, l3] [v0, v1, v2] h Q ↔ wp 110 25 [l0, l1, l2, l3] [.inl 0, v0, v1, v2] h Q := w_const1 dX9_comes_24 k_0
theorem s110_25  : wp 110 25 [l0, l1, l2, l3] [p3, p2, p1, p0] h Q ↔ wp 107 0 [p0, p1, p2, p3] [] h (kont 110 28 [l0, l1, l2, l3] [] Q) := w_callS (y2 := 107) (kd := 0) (vs := [p0, p1, p2, p3]) (st := []) dX9_comes_25 (by decide +kernel) (by decide) rfl (by decide +kernel) (Nat.le_of_ble_eq_true rfl) (by simp)
theorem s110_28 (h0 : a ≠ 0) : wp 110 28 [.inr a, l1, l2, l3] [] h Q ↔ wp 110 29 [.inr a, l1, l2, l3] [.inr a] h Q := wp_step dX9_comes_28 (fun _ => if_neg h0)
theorem s110_29  : wp 110 29 [l0, .inl x, l2, l3] [v0] h Q ↔ wp 110 30 [l0, .inl x, l2, l3] [.inl x, v0] h Q := wp_step dX9_comes_29 (fun _ => rfl)
theorem s110_30  : wp 110 30 [l0, l1, l2, l3] [v0, v1] h Q ↔ wp 110 31 [l0, l1, l2, l3] [.inl 4, v0, v1] h Q := w_const1 dX9_comes_30 k_4
theorem s110_31  : wp 110 31 [l0, l1, l2, l3] [v0, v1, v2] h Q ↔ wp 110 32 [l0, l1, l2, l3] [.inl 0, v0, v1, v2] h Q := w_const1 dX9_comes_31 k_0
theorem s110_32  : wp 110 32 [l0, l1, l2, l3] [p3, p2, p1, p0] h Q ↔ wp 107 0 [p0, p1, p2, p3] [] h (kont 110 35 [l0, l1, l2, l3] [] Q) := w_callS (y2 := 107) (kd := 0) (vs := [p0, p1, p2, p3]) (st := []) dX9_comes_32 (by decide +kernel) (by decide) rfl (by decide +kernel) (Nat.le_of_ble_eq_true rfl) (by simp)
theorem s110_35  : wp 110 35 [l0, l1, l2, l3] [] h Q ↔ Q none h := w_retv dX9_comes_35 (by decide +kernel)
theorem s111_0  : wp 111 0 [.inl x, l1, l2, l3] [] h Q ↔ wp 111 1 [.inl x, l1, l2, l3] [.inl x] h Q := wp_step dX9_by_0 (fun _ => rfl)
theorem s111_1  : wp 111 1 [l0, l1, l2, l3] [.inl x] h Q ↔ if x = 0 then wp 111 4 [l0, l1, l2, l3] [] h Q else wp 111 8 [l0, l1, l2, l3] [] h Q := w_ne0 dX9_by_1 (by decide)
theorem s111_4  : wp 111 4 [l0, .inl x, l2, l3] [] h Q ↔ wp 111 5 [l0, .inl x, l2, l3] [.inl x] h Q := wp_step dX9_by_4 (fun _ => rfl)
theorem s111_5  : wp 111 5 [l0, l1, l2, l3] [v0] h Q ↔ wp 111 18 [l0, l1, l2, l3] [v0] h Q := w_goto dX9_by_5 (by decide)
theorem s111_8  : wp 111 8 [.inl x, l1, l2, l3] [] h Q ↔ wp 111 9 [.inl x, l1, l2, l3] [.inl x] h Q := wp_step dX9_by_8 (fun _ => rfl)
theorem s111_9  : wp 111 9 [l0, l1, l2, l3] [v0] h Q ↔ wp 111 10 [l0, l1, l2, l3] [.inl 1, v0] h Q := w_const1 dX9_by_9 k_1
theorem s111_10  : wp 111 10 [l0, l1, l2, l3] [.inl z, .inl x] h Q ↔ if x = z then wp 111 13 [l0, l1, l2, l3] [] h Q else wp 111 17 [l0, l1, l2, l3] [] h Q := w_cne dX9_by_10 (by decide)
theorem s111_13  : wp 111 13 [l0, l1, .inl x, l3] [] h Q ↔ wp 111 14 [l0, l1, .inl x, l3] [.inl x] h Q := wp_step dX9_by_13 (fun _ => rfl)
theorem s111_14  : wp 111 14 [l0, l1, l2, l3] [v0] h Q ↔ wp 111 18 [l0, l1, l2, l3] [v0] h Q := w_goto dX9_by_14 (by decide)
theorem s111_17  : wp 111 17 [l0, l1, l2, .inl x] [] h Q ↔ wp 111 18 [l0, l1, l2, .inl x] [.inl x] h Q := wp_step dX9_by_17 (fun _ => rfl)
theorem s111_18  : wp 111 18 [l0, l1, l2, l3] [.inl x] h Q ↔ Q (some (.inl x)) h := w_reti dX9_by_18 (e_ri (by decide +kernel))
theorem s112_0 (h0 : a ≠ 0) : wp 112 0 [.inr a, l1] [] h Q ↔ wp 112 1 [.inr a, l1] [.inr a] h Q := wp_step dX9_life_0 (fun _ => if_neg h0)
theorem s112_1  : wp 112 1 [l0, .inl x] [v0] h Q ↔ wp 112 2 [l0, .inl x] [.inl x, v0] h Q := wp_step dX9_life_1 (fun _ => rfl)
theorem s112_2  : wp 112 2 [l0, l1] [v0, v1] h Q ↔ wp 112 3 [l0, l1] [.inl 0, v0, v1] h Q := w_const1 dX9_life_2 k_0
theorem s112_3  : wp 112 3 [l0, l1] [p2, p1, p0] h Q ↔ wp 106 0 [p0, p1, p2] [] h (kont 112 6 [l0, l1] [] Q) := w_callS (y2 := 106) (kd := 0) (vs := [p0, p1, p2]) (st := []) dX9_life_3 (by decide +kernel) (by decide) rfl (by decide +kernel) (Nat.le_of_ble_eq_true rfl) (by simp)
theorem s112_6  : wp 112 6 [l0, l1] [v0] h Q ↔ wp 112 9 [l0, l1] [.inl 400, v0] h Q := w_const3 dX9_life_6 k_400 k16_400
theorem s112_9  : wp 112 9 [l0, l1] [v0, v1] h Q ↔ wp 112 12 [l0, l1] [.inl 700, v0, v1] h Q := w_const3 dX9_life_9 k_700 k16_700
theorem s112_12  : wp 112 12 [l0, l1] [v0, v1, v2] h Q ↔ wp 112 15 [l0, l1] [.inl 200, v0, v1, v2] h Q := w_const3 dX9_life_12 k_200 k16_200
theorem s112_15  : wp 112 15 [l0, l1] [p3, p2, p1, p0] h Q ↔ wp 111 0 [p0, p1, p2, p3] [] h (kont 112 18 [l0, l1] [] Q) := w_callS (y2 := 111) (kd := 0) (vs := [p0, p1, p2, p3]) (st := []) dX9_life_15 (by decide +kernel) (by decide) rfl (by decide +kernel) (Nat.le_of_ble_eq_true rfl) (by simp)
theorem s112_18 (h0 : a ≠ 0) : wp 112 18 [.inr a, l1] [v0] h Q ↔ wp 112 19 [.inr a, l1] [.inr a, v0] h Q := wp_step dX9_life_18 (fun _ => if_neg h0)
theorem s112_19  : wp 112 19 [l0, .inl x] [v0, v1] h Q ↔ wp 112 20 [l0, .inl x] [.inl x, v0, v1] h Q := wp_step dX9_life_19 (fun _ => rfl)
theorem s112_20  : wp 112 20 [l0, l1] [v0, v1, v2] h Q ↔ wp 112 21 [l0, l1] [.inl 1, v0, v1, v2] h Q := w_const1 dX9_life_20 k_1
theorem s112_21  : wp 112 21 [l0, l1] [p2, p1, p0, v0] h Q ↔ wp 106 0 [p0, p1, p2] [] h (kont 112 24 [l0, l1] [v0] Q) := w_callS (y2 := 106) (kd := 0) (vs := [p0, p1, p2]) (st := [v0]) dX9_life_21 (by decide +kernel) (by decide) rfl (by decide +kernel) (Nat.le_of_ble_eq_true rfl) (by simp)
theorem s112_24  : wp 112 24 [l0, l1] [.inl z, .inl x] h Q ↔ wp 112 25 [l0, l1] [.inl (w32 (x * z))] h Q := wp_step dX9_life_24 (fun _ => rfl)
theorem s112_25  : wp 112 25 [l0, l1] [v0] h Q ↔ wp 112 27 [l0, l1] [.inl 100, v0] h Q := w_const2 dX9_life_25 k_100 k8_100
theorem s112_27 (h0 : z ≠ 0) : wp 112 27 [l0, l1] [.inl z, .inl x] h Q ↔ wp 112 28 [l0, l1] [.inl (w32 (x.tdiv z))] h Q := w_div dX9_life_27 h0
theorem s112_28  : wp 112 28 [l0, l1] [.inl x] h Q ↔ Q (some (.inl x)) h := w_reti dX9_life_28 (e_ri (by decide +kernel))
theorem s113_0 (h0 : a ≠ 0) : wp 113 0 [.inr a, l1] [] h Q ↔ wp 113 1 [.inr a, l1] [.inr a] h Q := wp_step dX9_nominal_0 (fun _ => if_neg h0)
theorem s113_1  : wp 113 1 [l0, .inl x] [v0] h Q ↔ wp 113 2 [l0, .inl x] [.inl x, v0] h Q := wp_step dX9_nominal_1 (fun _ => rfl)
theorem s113_2  : wp 113 2 [l0, l1] [v0, v1] h Q ↔ wp 113 3 [l0, l1] [.inl 0, v0, v1] h Q := w_const1 dX9_nominal_2 k_0
theorem s113_3  : wp 113 3 [l0, l1] [p2, p1, p0] h Q ↔ wp 106 0 [p0, p1, p2] [] h (kont 113 6 [l0, l1] [] Q) := w_callS (y2 := 106) (kd := 0) (vs := [p0, p1, p2]) (st := []) dX9_nominal_3 (by decide +kernel) (by decide) rfl (by decide +kernel) (Nat.le_of_ble_eq_true rfl) (by simp)
theorem s113_6  : wp 113 6 [l0, l1] [v0] h Q ↔ wp 113 9 [l0, l1] [.inl 1000, v0] h Q := w_const3 dX9_nominal_6 k_1000 k16_1000
theorem s113_9  : wp 113 9 [l0, l1] [v0, v1] h Q ↔ wp 113 12 [l0, l1] [.inl 1400, v0, v1] h Q := w_const3 dX9_nominal_9 k_1400 k16_1400
theorem s113_12  : wp 113 12 [l0, l1] [v0, v1, v2] h Q ↔ wp 113 15 [l0, l1] [.inl 700, v0, v1, v2] h Q := w_const3 dX9_nominal_12 k_700 k16_700
theorem s113_15  : wp 113 15 [l0, l1] [p3, p2, p1, p0] h Q ↔ wp 111 0 [p0, p1, p2, p3] [] h (kont 113 18 [l0, l1] [] Q) := w_callS (y2 := 111) (kd := 0) (vs := [p0, p1, p2, p3]) (st := []) dX9_nominal_15 (by decide +kernel) (by decide) rfl (by decide +kernel) (Nat.le_of_ble_eq_true rfl) (by simp)
theorem s113_18  : wp 113 18 [l0, l1] [.inl x] h Q ↔ Q (some (.inl x)) h := w_reti dX9_nominal_18 (e_ri (by decide +kernel))
theorem s114_0 (h0 : a ≠ 0) : wp 114 0 [.inr a, l1] [] h Q ↔ wp 114 1 [.inr a, l1] [.inr a] h Q := wp_step dX9_isOut_0 (fun _ => if_neg h0)
theorem s114_1  : wp 114 1 [l0, .inl x] [v0] h Q ↔ wp 114 2 [l0, .inl x] [.inl x, v0] h Q := wp_step dX9_isOut_1 (fun _ => rfl)
theorem s114_2  : wp 114 2 [l0, l1] [v0, v1] h Q ↔ wp 114 3 [l0, l1] [.inl 2, v0, v1] h Q := w_const1 dX9_isOut_2 k_2
theorem s114_3  : wp 114 3 [l0, l1] [p2, p1, p0] h Q ↔ wp 106 0 [p0, p1, p2] [] h (kont 114 6 [l0, l1] [] Q) := w_callS (y2 := 106) (kd := 0) (vs := [p0, p1, p2]) (st := []) dX9_isOut_3 (by decide +kernel) (by decide) rfl (by decide +kernel) (Nat.le_of_ble_eq_true rfl) (by simp)
theorem s114_6 (h0 : a ≠ 0) : wp 114 6 [.inr a, l1] [v0] h Q ↔ wp 114 7 [.inr a, l1] [.inr a, v0] h Q := wp_step dX9_isOut_6 (fun _ => if_neg h0)
theorem s114_7  : wp 114 7 [l0, .inl x] [v0, v1] h Q ↔ wp 114 8 [l0, .inl x] [.inl x, v0, v1] h Q := wp_step dX9_isOut_7 (fun _ => rfl)
theorem s114_8  : wp 114 8 [l0, l1] [p1, p0, v0] h Q ↔ wp 112 0 [p0, p1] [] h (kont 114 11 [l0, l1] [v0] Q) := w_callS (y2 := 112) (kd := 0) (vs := [p0, p1]) (st := [v0]) dX9_isOut_8 (by decide +kernel) (by decide) rfl (by decide +kernel) (Nat.le_of_ble_eq_true rfl) (by simp)
theorem s114_11  : wp 114 11 [l0, l1] [.inl z, .inl x] h Q ↔ if x < z then wp 114 18 [l0, l1] [] h Q else wp 114 14 [l0, l1] [] h Q := w_clt dX9_isOut_11 (by decide)
theorem s114_14  : wp 114 14 [l0, l1] [] h Q ↔ wp 114 15 [l0, l1] [.inl 1] h Q := w_const1 dX9_isOut_14 k_1
theorem s114_15  : wp 114 15 [l0, l1] [v0] h Q ↔ wp 114 19 [l0, l1] [v0] h Q := w_goto dX9_isOut_15 (by decide)
theorem s114_18  : wp 114 18 [l0, l1] [] h Q ↔ wp 114 19 [l0, l1] [.inl 0] h Q := w_const1 dX9_isOut_18 k_0
theorem s114_19 (h0 : x = 0 ∨ x = 1) : wp 114 19 [l0, l1] [.inl x] h Q ↔ Q (some (.inl x)) h := w_reti dX9_isOut_19 (e_rz (by decide +kernel) h0)
theorem s115_0 (h0 : a ≠ 0) : wp 115 0 [.inr a, l1, l2] [] h Q ↔ wp 115 1 [.inr a, l1, l2] [.inr a] h Q := wp_step dX9_current_0 (fun _ => if_neg h0)
theorem s115_1  : wp 115 1 [l0, .inl x, l2] [v0] h Q ↔ wp 115 2 [l0, .inl x, l2] [.inl x, v0] h Q := wp_step dX9_current_1 (fun _ => rfl)
theorem s115_2  : wp 115 2 [l0, l1, l2] [p1, p0] h Q ↔ wp 113 0 [p0, p1] [] h (kont 115 5 [l0, l1, l2] [] Q) := w_callS (y2 := 113) (kd := 0) (vs := [p0, p1]) (st := []) dX9_current_2 (by decide +kernel) (by decide) rfl (by decide +kernel) (Nat.le_of_ble_eq_true rfl) (by simp)
theorem s115_5  : wp 115 5 [l0, l1, l2] [.inl x] h Q ↔ wp 115 6 [l0, l1, .inl x] [] h Q := wp_step dX9_current_5 (fun _ => rfl)
theorem s115_6 (h0 : a ≠ 0) : wp 115 6 [.inr a, l1, l2] [] h Q ↔ wp 115 7 [.inr a, l1, l2] [.inr a] h Q := wp_step dX9_current_6 (fun _ => if_neg h0)
theorem s115_7  : wp 115 7 [l0, .inl x, l2] [v0] h Q ↔ wp 115 8 [l0, .inl x, l2] [.inl x, v0] h Q := wp_step dX9_current_7 (fun _ => rfl)
theorem s115_8  : wp 115 8 [l0, l1, l2] [p1, p0] h Q ↔ wp 114 0 [p0, p1] [] h (kont 115 11 [l0, l1, l2] [] Q) := w_callS (y2 := 114) (kd := 0) (vs := [p0, p1]) (st := []) dX9_current_8 (by decide +kernel) (by decide) rfl (by decide +kernel) (Nat.le_of_ble_eq_true rfl) (by simp)
theorem s115_11  : wp 115 11 [l0, l1, l2] [.inl x] h Q ↔ if x = 0 then wp 115 18 [l0, l1, l2] [] h Q else wp 115 14 [l0, l1, l2] [] h Q := w_eq0 dX9_current_11 (by decide)
theorem s115_14  : wp 115 14 [l0, l1, l2] [] h Q ↔ wp 115 15 [l0, l1, l2] [.inl 0] h Q := w_const1 dX9_current_14 k_0
theorem s115_15  : wp 115 15 [l0, l1, l2] [v0] h Q ↔ wp 115 36 [l0, l1, l2] [v0] h Q := w_goto dX9_current_15 (by decide)
theorem s115_18  : wp 115 18 [l0, l1, .inl x] [] h Q ↔ wp 115 19 [l0, l1, .inl x] [.inl x] h Q := wp_step dX9_current_18 (fun _ => rfl)
theorem s115_19  : wp 115 19 [l0, l1, .inl x] [v0] h Q ↔ wp 115 20 [l0, l1, .inl x] [.inl x, v0] h Q := wp_step dX9_current_19 (fun _ => rfl)
theorem s115_20 (h0 : a ≠ 0) : wp 115 20 [.inr a, l1, l2] [v0, v1] h Q ↔ wp 115 21 [.inr a, l1, l2] [.inr a, v0, v1] h Q := wp_step dX9_current_20 (fun _ => if_neg h0)
theorem s115_21  : wp 115 21 [l0, .inl x, l2] [v0, v1, v2] h Q ↔ wp 115 22 [l0, .inl x, l2] [.inl x, v0, v1, v2] h Q := wp_step dX9_current_21 (fun _ => rfl)
theorem s115_22  : wp 115 22 [l0, l1, l2] [v0, v1, v2, v3] h Q ↔ wp 115 23 [l0, l1, l2] [.inl 2, v0, v1, v2, v3] h Q := w_const1 dX9_current_22 k_2
theorem s115_23  : wp 115 23 [l0, l1, l2] [p2, p1, p0, v0, v1] h Q ↔ wp 106 0 [p0, p1, p2] [] h (kont 115 26 [l0, l1, l2] [v0, v1] Q) := w_callS (y2 := 106) (kd := 0) (vs := [p0, p1, p2]) (st := [v0, v1]) dX9_current_23 (by decide +kernel) (by decide) rfl (by decide +kernel) (Nat.le_of_ble_eq_true rfl) (by simp)
theorem s115_26  : wp 115 26 [l0, l1, l2] [.inl z, .inl x, v0] h Q ↔ wp 115 27 [l0, l1, l2] [.inl (w32 (x * z)), v0] h Q := wp_step dX9_current_26 (fun _ => rfl)
theorem s115_27  : wp 115 27 [l0, l1, l2] [v0, v1] h Q ↔ wp 115 28 [l0, l1, l2] [.inl 4, v0, v1] h Q := w_const1 dX9_current_27 k_4
theorem s115_28 (h0 : a ≠ 0) : wp 115 28 [.inr a, l1, l2] [v0, v1, v2] h Q ↔ wp 115 29 [.inr a, l1, l2] [.inr a, v0, v1, v2] h Q := wp_step dX9_current_28 (fun _ => if_neg h0)
theorem s115_29  : wp 115 29 [l0, .inl x, l2] [v0, v1, v2, v3] h Q ↔ wp 115 30 [l0, .inl x, l2] [.inl x, v0, v1, v2, v3] h Q := wp_step dX9_current_29 (fun _ => rfl)
theorem s115_30  : wp 115 30 [l0, l1, l2] [p1, p0, v0, v1, v2] h Q ↔ wp 112 0 [p0, p1] [] h (kont 115 33 [l0, l1, l2] [v0, v1, v2] Q) := w_callS (y2 := 112) (kd := 0) (vs := [p0, p1]) (st := [v0, v1, v2]) dX9_current_30 (by decide +kernel) (by decide) rfl (by decide +kernel) (Nat.le_of_ble_eq_true rfl) (by simp)
theorem s115_33  : wp 115 33 [l0, l1, l2] [.inl z, .inl x, v0, v1] h Q ↔ wp 115 34 [l0, l1, l2] [.inl (w32 (x * z)), v0, v1] h Q := wp_step dX9_current_33 (fun _ => rfl)
theorem s115_34 (h0 : z ≠ 0) : wp 115 34 [l0, l1, l2] [.inl z, .inl x, v0] h Q ↔ wp 115 35 [l0, l1, l2] [.inl (w32 (x.tdiv z)), v0] h Q := w_div dX9_current_34 h0
theorem s115_35  : wp 115 35 [l0, l1, l2] [.inl z, .inl x] h Q ↔ wp 115 36 [l0, l1, l2] [.inl (w32 (x - z))] h Q := wp_step dX9_current_35 (fun _ => rfl)
theorem s115_36  : wp 115 36 [l0, l1, l2] [.inl x] h Q ↔ Q (some (.inl x)) h := w_reti dX9_current_36 (e_ri (by decide +kernel))
theorem s116_0  : wp 116 0 [l0, l1] [] h Q ↔ wp 116 2 [l0, l1] [.inl 100] h Q := w_const2 dX9_isBelow_0 k_100 k8_100
theorem s116_2 (h0 : a ≠ 0) : wp 116 2 [.inr a, l1] [v0] h Q ↔ wp 116 3 [.inr a, l1] [.inr a, v0] h Q := wp_step dX9_isBelow_2 (fun _ => if_neg h0)
theorem s116_3  : wp 116 3 [l0, .inl x] [v0, v1] h Q ↔ wp 116 4 [l0, .inl x] [.inl x, v0, v1] h Q := wp_step dX9_isBelow_3 (fun _ => rfl)
theorem s116_4  : wp 116 4 [l0, l1] [p1, p0, v0] h Q ↔ wp 115 0 [p0, p1, .inr 0] [] h (kont 116 7 [l0, l1] [v0] Q) := w_callS (y2 := 115) (kd := 0) (vs := [p0, p1]) (st := [v0]) dX9_isBelow_4 (by decide +kernel) (by decide) rfl (by decide +kernel) (Nat.le_of_ble_eq_true rfl) (by simp)
theorem s116_7  : wp 116 7 [l0, l1] [.inl z, .inl x] h Q ↔ wp 116 8 [l0, l1] [.inl (w32 (x * z))] h Q := wp_step dX9_isBelow_7 (fun _ => rfl)
theorem s116_8 (h0 : a ≠ 0) : wp 116 8 [.inr a, l1] [v0] h Q ↔ wp 116 9 [.inr a, l1] [.inr a, v0] h Q := wp_step dX9_isBelow_8 (fun _ => if_neg h0)
theorem s116_9  : wp 116 9 [l0, l1] [v0, v1] h Q ↔ wp 116 10 [l0, l1] [.inl 3, v0, v1] h Q := w_const1 dX9_isBelow_9 k_3
theorem s116_10 (ha : tg a = 100) (h0 : 0 ≤ x) (h1 : x < ln S a) : wp 116 10 [l0, l1] [.inl x, .inr a, v0] (hp S D) Q ↔ wp 116 11 [l0, l1] [.inl (rd S D a x.toNat), v0] (hp S D) Q := w_iald dX9_isBelow_10 ha h0 h1
theorem s116_11 (h0 : a ≠ 0) : wp 116 11 [.inr a, l1] [v0, v1] h Q ↔ wp 116 12 [.inr a, l1] [.inr a, v0, v1] h Q := wp_step dX9_isBelow_11 (fun _ => if_neg h0)
theorem s116_12  : wp 116 12 [l0, .inl x] [v0, v1, v2] h Q ↔ wp 116 13 [l0, .inl x] [.inl x, v0, v1, v2] h Q := wp_step dX9_isBelow_12 (fun _ => rfl)
theorem s116_13  : wp 116 13 [l0, l1] [p1, p0, v0, v1] h Q ↔ wp 113 0 [p0, p1] [] h (kont 116 16 [l0, l1] [v0, v1] Q) := w_callS (y2 := 113) (kd := 0) (vs := [p0, p1]) (st := [v0, v1]) dX9_isBelow_13 (by decide +kernel) (by decide) rfl (by decide +kernel) (Nat.le_of_ble_eq_true rfl) (by simp)
theorem s116_16  : wp 116 16 [l0, l1] [.inl z, .inl x, v0] h Q ↔ wp 116 17 [l0, l1] [.inl (w32 (x * z)), v0] h Q := wp_step dX9_isBelow_16 (fun _ => rfl)
theorem s116_17  : wp 116 17 [l0, l1] [.inl z, .inl x] h Q ↔ if x < z then wp 116 20 [l0, l1] [] h Q else wp 116 24 [l0, l1] [] h Q := w_cge dX9_isBelow_17 (by decide)
theorem s116_20  : wp 116 20 [l0, l1] [] h Q ↔ wp 116 21 [l0, l1] [.inl 1] h Q := w_const1 dX9_isBelow_20 k_1
theorem s116_21  : wp 116 21 [l0, l1] [v0] h Q ↔ wp 116 25 [l0, l1] [v0] h Q := w_goto dX9_isBelow_21 (by decide)
theorem s116_24  : wp 116 24 [l0, l1] [] h Q ↔ wp 116 25 [l0, l1] [.inl 0] h Q := w_const1 dX9_isBelow_24 k_0
theorem s116_25 (h0 : x = 0 ∨ x = 1) : wp 116 25 [l0, l1] [.inl x] h Q ↔ Q (some (.inl x)) h := w_reti dX9_isBelow_25 (e_rz (by decide +kernel) h0)
theorem s117_0 (h0 : a ≠ 0) : wp 117 0 [.inr a, l1, l2] [] h Q ↔ wp 117 1 [.inr a, l1, l2] [.inr a] h Q := wp_step dX9_isGood_0 (fun _ => if_neg h0)
theorem s117_1  : wp 117 1 [l0, .inl x, l2] [v0] h Q ↔ wp 117 2 [l0, .inl x, l2] [.inl x, v0] h Q := wp_step dX9_isGood_1 (fun _ => rfl)
theorem s117_2  : wp 117 2 [l0, l1, l2] [p1, p0] h Q ↔ wp 109 0 [p0, p1] [] h (kont 117 5 [l0, l1, l2] [] Q) := w_callS (y2 := 109) (kd := 0) (vs := [p0, p1]) (st := []) dX9_isGood_2 (by decide +kernel) (by decide) rfl (by decide +kernel) (Nat.le_of_ble_eq_true rfl) (by simp)
theorem s117_5  : wp 117 5 [l0, l1, l2] [.inl x] h Q ↔ if x = 0 then wp 117 34 [l0, l1, l2] [] h Q else wp 117 8 [l0, l1, l2] [] h Q := w_eq0 dX9_isGood_5 (by decide)
theorem s117_8 (h0 : a ≠ 0) : wp 117 8 [.inr a, l1, l2] [] h Q ↔ wp 117 9 [.inr a, l1, l2] [.inr a] h Q := wp_step dX9_isGood_8 (fun _ => if_neg h0)
theorem s117_9  : wp 117 9 [l0, .inl x, l2] [v0] h Q ↔ wp 117 10 [l0, .inl x, l2] [.inl x, v0] h Q := wp_step dX9_isGood_9 (fun _ => rfl)
theorem s117_10  : wp 117 10 [l0, l1, l2] [p1, p0] h Q ↔ wp 114 0 [p0, p1] [] h (kont 117 13 [l0, l1, l2] [] Q) := w_callS (y2 := 114) (kd := 0) (vs := [p0, p1]) (st := []) dX9_isGood_10 (by decide +kernel) (by decide) rfl (by decide +kernel) (Nat.le_of_ble_eq_true rfl) (by simp)
theorem s117_13  : wp 117 13 [l0, l1, l2] [.inl x] h Q ↔ if x = 0 then wp 117 16 [l0, l1, l2] [] h Q else wp 117 34 [l0, l1, l2] [] h Q := w_ne0 dX9_isGood_13 (by decide)
theorem s117_16  : wp 117 16 [l0, l1, .inl x] [] h Q ↔ wp 117 17 [l0, l1, .inl x] [.inl x] h Q := wp_step dX9_isGood_16 (fun _ => rfl)
theorem s117_17  : wp 117 17 [l0, l1, l2] [.inl x] h Q ↔ if x = 0 then wp 117 30 [l0, l1, l2] [] h Q else wp 117 20 [l0, l1, l2] [] h Q := w_eq0 dX9_isGood_17 (by decide)
theorem s117_20 (h0 : a ≠ 0) : wp 117 20 [.inr a, l1, l2] [] h Q ↔ wp 117 21 [.inr a, l1, l2] [.inr a] h Q := wp_step dX9_isGood_20 (fun _ => if_neg h0)
theorem s117_21  : wp 117 21 [l0, .inl x, l2] [v0] h Q ↔ wp 117 22 [l0, .inl x, l2] [.inl x, v0] h Q := wp_step dX9_isGood_21 (fun _ => rfl)
theorem s117_22  : wp 117 22 [l0, l1, l2] [v0, v1] h Q ↔ wp 117 23 [l0, l1, l2] [.inl 3, v0, v1] h Q := w_const1 dX9_isGood_22 k_3
theorem s117_23  : wp 117 23 [l0, l1, l2] [p2, p1, p0] h Q ↔ wp 106 0 [p0, p1, p2] [] h (kont 117 26 [l0, l1, l2] [] Q) := w_callS (y2 := 106) (kd := 0) (vs := [p0, p1, p2]) (st := []) dX9_isGood_23 (by decide +kernel) (by decide) rfl (by decide +kernel) (Nat.le_of_ble_eq_true rfl) (by simp)
theorem s117_26  : wp 117 26 [l0, l1, l2] [v0] h Q ↔ wp 117 27 [l0, l1, l2] [.inl 1, v0] h Q := w_const1 dX9_isGood_26 k_1
theorem s117_27  : wp 117 27 [l0, l1, l2] [.inl z, .inl x] h Q ↔ if x = z then wp 117 34 [l0, l1, l2] [] h Q else wp 117 30 [l0, l1, l2] [] h Q := w_ceq dX9_isGood_27 (by decide)
theorem s117_30  : wp 117 30 [l0, l1, l2] [] h Q ↔ wp 117 31 [l0, l1, l2] [.inl 1] h Q := w_const1 dX9_isGood_30 k_1
theorem s117_31  : wp 117 31 [l0, l1, l2] [v0] h Q ↔ wp 117 35 [l0, l1, l2] [v0] h Q := w_goto dX9_isGood_31 (by decide)
theorem s117_34  : wp 117 34 [l0, l1, l2] [] h Q ↔ wp 117 35 [l0, l1, l2] [.inl 0] h Q := w_const1 dX9_isGood_34 k_0
theorem s117_35 (h0 : x = 0 ∨ x = 1) : wp 117 35 [l0, l1, l2] [.inl x] h Q ↔ Q (some (.inl x)) h := w_reti dX9_isGood_35 (e_rz (by decide +kernel) h0)
theorem s118_0  : wp 118 0 [l0, l1, l2, l3] [] h Q ↔ wp 118 1 [l0, l1, l2, l3] [.inl 1] h Q := w_const1 dX9_found_0 k_1
theorem s118_1  : wp 118 1 [l0, l1, l2, l3] [.inl x] h Q ↔ wp 118 2 [l0, l1, .inl x, l3] [] h Q := wp_step dX9_found_1 (fun _ => rfl)
theorem s118_2  : wp 118 2 [l0, l1, .inl x, l3] [] h Q ↔ wp 118 3 [l0, l1, .inl x, l3] [.inl x] h Q := wp_step dX9_found_2 (fun _ => rfl)
theorem s118_3  : wp 118 3 [l0, l1, l2, l3] [v0] h Q ↔ wp 118 5 [l0, l1, l2, l3] [.inl 6, v0] h Q := w_const2 dX9_found_3 k_6 k8_6
theorem s118_5  : wp 118 5 [l0, l1, l2, l3] [.inl z, .inl x] h Q ↔ if z < x then wp 118 35 [l0, l1, l2, l3] [] h Q else wp 118 8 [l0, l1, l2, l3] [] h Q := w_cgt dX9_found_5 (by decide)
theorem s118_8 (h0 : a ≠ 0) : wp 118 8 [.inr a, l1, l2, l3] [] h Q ↔ wp 118 9 [.inr a, l1, l2, l3] [.inr a] h Q := wp_step dX9_found_8 (fun _ => if_neg h0)
theorem s118_9  : wp 118 9 [l0, l1, l2, l3] [v0] h Q ↔ wp 118 11 [l0, l1, l2, l3] [.inl 7, v0] h Q := w_const2 dX9_found_9 k_7 k8_7
theorem s118_11 (ha : tg a = 100) (h0 : 0 ≤ x) (h1 : x < ln S a) : wp 118 11 [l0, l1, l2, l3] [.inl x, .inr a] (hp S D) Q ↔ wp 118 12 [l0, l1, l2, l3] [.inl (rd S D a x.toNat)] (hp S D) Q := w_iald dX9_found_11 ha h0 h1
theorem s118_12  : wp 118 12 [l0, l1, .inl x, l3] [v0] h Q ↔ wp 118 13 [l0, l1, .inl x, l3] [.inl x, v0] h Q := wp_step dX9_found_12 (fun _ => rfl)
theorem s118_13  : wp 118 13 [l0, l1, l2, l3] [.inl z, .inl x] h Q ↔ wp 118 14 [l0, l1, l2, l3] [.inl (w32 (x + z))] h Q := wp_step dX9_found_13 (fun _ => rfl)
theorem s118_14  : wp 118 14 [l0, l1, l2, l3] [v0] h Q ↔ wp 118 16 [l0, l1, l2, l3] [.inl 6, v0] h Q := w_const2 dX9_found_14 k_6 k8_6
theorem s118_16 (h0 : z ≠ 0) : wp 118 16 [l0, l1, l2, l3] [.inl z, .inl x] h Q ↔ wp 118 17 [l0, l1, l2, l3] [.inl (w32 (x.tmod z))] h Q := w_rem dX9_found_16 h0
theorem s118_17  : wp 118 17 [l0, l1, l2, l3] [.inl x] h Q ↔ wp 118 18 [l0, l1, l2, .inl x] [] h Q := wp_step dX9_found_17 (fun _ => rfl)
theorem s118_18 (h0 : a ≠ 0) : wp 118 18 [.inr a, l1, l2, l3] [] h Q ↔ wp 118 19 [.inr a, l1, l2, l3] [.inr a] h Q := wp_step dX9_found_18 (fun _ => if_neg h0)
theorem s118_19  : wp 118 19 [l0, l1, l2, .inl x] [v0] h Q ↔ wp 118 20 [l0, l1, l2, .inl x] [.inl x, v0] h Q := wp_step dX9_found_19 (fun _ => rfl)
theorem s118_20  : wp 118 20 [l0, .inl x, l2, l3] [v0, v1] h Q ↔ wp 118 21 [l0, .inl x, l2, l3] [.inl x, v0, v1] h Q := wp_step dX9_found_20 (fun _ => rfl)
theorem s118_21  : wp 118 21 [l0, l1, l2, l3] [p2, p1, p0] h Q ↔ wp 117 0 [p0, p1, p2] [] h (kont 118 24 [l0, l1, l2, l3] [] Q) := w_callS (y2 := 117) (kd := 0) (vs := [p0, p1, p2]) (st := []) dX9_found_21 (by decide +kernel) (by decide) rfl (by decide +kernel) (Nat.le_of_ble_eq_true rfl) (by simp)
theorem s118_24  : wp 118 24 [l0, l1, l2, l3] [.inl x] h Q ↔ if x = 0 then wp 118 29 [l0, l1, l2, l3] [] h Q else wp 118 27 [l0, l1, l2, l3] [] h Q := w_eq0 dX9_found_24 (by decide)
theorem s118_27  : wp 118 27 [l0, l1, l2, .inl x] [] h Q ↔ wp 118 28 [l0, l1, l2, .inl x] [.inl x] h Q := wp_step dX9_found_27 (fun _ => rfl)
theorem s118_28  : wp 118 28 [l0, l1, l2, l3] [.inl x] h Q ↔ Q (some (.inl x)) h := w_reti dX9_found_28 (e_ri (by decide +kernel))
theorem s118_29  : wp 118 29 [l0, l1, .inl x, l3] [] h Q ↔ wp 118 32 [l0, l1, .inl (w32 (x + 1)), l3] [] h Q := wp_step dX9_found_29 (fun _ => rfl)
theorem s118_32  : wp 118 32 [l0, l1, l2, l3] [] h Q ↔ wp 118 2 [l0, l1, l2, l3] [] h Q := w_goto dX9_found_32 (by decide)
theorem s118_35  : wp 118 35 [l0, l1, l2, l3] [] h Q ↔ wp 118 37 [l0, l1, l2, l3] [.inl (-5)] h Q := w_const2 dX9_found_35 k_m5 k8_m5
theorem s118_37  : wp 118 37 [l0, l1, l2, l3] [.inl x] h Q ↔ Q (some (.inl x)) h := w_reti dX9_found_37 (e_ri (by decide +kernel))
theorem s119_0 (h0 : a ≠ 0) : wp 119 0 [.inr a, l1] [] h Q ↔ wp 119 1 [.inr a, l1] [.inr a] h Q := wp_step dX9_next_0 (fun _ => if_neg h0)
theorem s119_1  : wp 119 1 [l0, l1] [v0] h Q ↔ wp 119 2 [l0, l1] [.inl 1, v0] h Q := w_const1 dX9_next_1 k_1
theorem s119_2  : wp 119 2 [l0, l1] [p1, p0] h Q ↔ wp 118 0 [p0, p1, .inr 0, .inr 0] [] h (kont 119 5 [l0, l1] [] Q) := w_callS (y2 := 118) (kd := 0) (vs := [p0, p1]) (st := []) dX9_next_2 (by decide +kernel) (by decide) rfl (by decide +kernel) (Nat.le_of_ble_eq_true rfl) (by simp)
theorem s119_5  : wp 119 5 [l0, l1] [.inl x] h Q ↔ wp 119 6 [l0, .inl x] [] h Q := wp_step dX9_next_5 (fun _ => rfl)
theorem s119_6  : wp 119 6 [l0, .inl x] [] h Q ↔ wp 119 7 [l0, .inl x] [.inl x] h Q := wp_step dX9_next_6 (fun _ => rfl)
theorem s119_7  : wp 119 7 [l0, l1] [v0] h Q ↔ wp 119 9 [l0, l1] [.inl (-5), v0] h Q := w_const2 dX9_next_7 k_m5 k8_m5
theorem s119_9  : wp 119 9 [l0, l1] [.inl z, .inl x] h Q ↔ if x = z then wp 119 12 [l0, l1] [] h Q else wp 119 20 [l0, l1] [] h Q := w_cne dX9_next_9 (by decide)
theorem s119_12 (h0 : a ≠ 0) : wp 119 12 [.inr a, l1] [] h Q ↔ wp 119 13 [.inr a, l1] [.inr a] h Q := wp_step dX9_next_12 (fun _ => if_neg h0)
theorem s119_13  : wp 119 13 [l0, l1] [v0] h Q ↔ wp 119 14 [l0, l1] [.inl 0, v0] h Q := w_const1 dX9_next_13 k_0
theorem s119_14  : wp 119 14 [l0, l1] [p1, p0] h Q ↔ wp 118 0 [p0, p1, .inr 0, .inr 0] [] h (kont 119 17 [l0, l1] [] Q) := w_callS (y2 := 118) (kd := 0) (vs := [p0, p1]) (st := []) dX9_next_14 (by decide +kernel) (by decide) rfl (by decide +kernel) (Nat.le_of_ble_eq_true rfl) (by simp)
theorem s119_17  : wp 119 17 [l0, l1] [v0] h Q ↔ wp 119 21 [l0, l1] [v0] h Q := w_goto dX9_next_17 (by decide)
theorem s119_20  : wp 119 20 [l0, .inl x] [] h Q ↔ wp 119 21 [l0, .inl x] [.inl x] h Q := wp_step dX9_next_20 (fun _ => rfl)
theorem s119_21  : wp 119 21 [l0, l1] [.inl x] h Q ↔ Q (some (.inl x)) h := w_reti dX9_next_21 (e_ri (by decide +kernel))
theorem s120_0 (h0 : a ≠ 0) : wp 120 0 [.inr a, l1, l2, l3] [] h Q ↔ wp 120 1 [.inr a, l1, l2, l3] [.inr a] h Q := wp_step dX9_happens_0 (fun _ => if_neg h0)
theorem s120_1  : wp 120 1 [l0, l1, l2, l3] [v0] h Q ↔ wp 120 3 [l0, l1, l2, l3] [.inl 80, v0] h Q := w_const2 dX9_happens_1 k_80 k8_80
theorem s120_3 (ha : tg a = 100) (h0 : 0 ≤ x) (h1 : x < ln S a) : wp 120 3 [l0, l1, l2, l3] [.inl x, .inr a] (hp S D) Q ↔ wp 120 4 [l0, l1, l2, l3] [.inl (rd S D a x.toNat)] (hp S D) Q := w_iald dX9_happens_3 ha h0 h1
theorem s120_4  : wp 120 4 [l0, l1, l2, l3] [v0] h Q ↔ wp 120 6 [l0, l1, l2, l3] [.inl 10, v0] h Q := w_const2 dX9_happens_4 k_10 k8_10
theorem s120_6  : wp 120 6 [l0, l1, l2, l3] [.inl z, .inl x] h Q ↔ if x = z then wp 120 9 [l0, l1, l2, l3] [] h Q else wp 120 40 [l0, l1, l2, l3] [] h Q := w_cne dX9_happens_6 (by decide)
theorem s120_9  : wp 120 9 [l0, l1, l2, l3] [] h Q ↔ wp 120 11 [l0, l1, l2, l3] [.inl 81] h Q := w_const2 dX9_happens_9 k_81 k8_81
theorem s120_11  : wp 120 11 [l0, l1, l2, l3] [.inl x] h Q ↔ wp 120 12 [l0, l1, l2, .inl x] [] h Q := wp_step dX9_happens_11 (fun _ => rfl)
theorem s120_12  : wp 120 12 [l0, l1, l2, .inl x] [] h Q ↔ wp 120 13 [l0, l1, l2, .inl x] [.inl x] h Q := wp_step dX9_happens_12 (fun _ => rfl)
theorem s120_13  : wp 120 13 [l0, l1, l2, l3] [v0] h Q ↔ wp 120 15 [l0, l1, l2, l3] [.inl 108, v0] h Q := w_const2 dX9_happens_13 k_108 k8_108
theorem s120_15  : wp 120 15 [l0, l1, l2, l3] [.inl z, .inl x] h Q ↔ if x < z then wp 120 18 [l0, l1, l2, l3] [] h Q else wp 120 32 [l0, l1, l2, l3] [] h Q := w_cge dX9_happens_15 (by decide)
theorem s120_18 (h0 : a ≠ 0) : wp 120 18 [.inr a, l1, l2, l3] [] h Q ↔ wp 120 19 [.inr a, l1, l2, l3] [.inr a] h Q := wp_step dX9_happens_18 (fun _ => if_neg h0)
theorem s120_19  : wp 120 19 [l0, l1, l2, .inl x] [v0] h Q ↔ wp 120 20 [l0, l1, l2, .inl x] [.inl x, v0] h Q := wp_step dX9_happens_19 (fun _ => rfl)
theorem s120_20 (h0 : a ≠ 0) : wp 120 20 [.inr a, l1, l2, l3] [v0, v1] h Q ↔ wp 120 21 [.inr a, l1, l2, l3] [.inr a, v0, v1] h Q := wp_step dX9_happens_20 (fun _ => if_neg h0)
theorem s120_21  : wp 120 21 [l0, l1, l2, .inl x] [v0, v1, v2] h Q ↔ wp 120 22 [l0, l1, l2, .inl x] [.inl x, v0, v1, v2] h Q := wp_step dX9_happens_21 (fun _ => rfl)
theorem s120_22  : wp 120 22 [l0, l1, l2, l3] [v0, v1, v2, v3] h Q ↔ wp 120 23 [l0, l1, l2, l3] [.inl 3, v0, v1, v2, v3] h Q := w_const1 dX9_happens_22 k_3
theorem s120_23  : wp 120 23 [l0, l1, l2, l3] [.inl z, .inl x, v0, v1, v2] h Q ↔ wp 120 24 [l0, l1, l2, l3] [.inl (w32 (x + z)), v0, v1, v2] h Q := wp_step dX9_happens_23 (fun _ => rfl)
theorem s120_24 (ha : tg a = 100) (h0 : 0 ≤ x) (h1 : x < ln S a) : wp 120 24 [l0, l1, l2, l3] [.inl x, .inr a, v0, v1] (hp S D) Q ↔ wp 120 25 [l0, l1, l2, l3] [.inl (rd S D a x.toNat), v0, v1] (hp S D) Q := w_iald dX9_happens_24 ha h0 h1
theorem s120_25 (ha : tg a = 100) (h8 : 8 ≤ a) (h0 : 0 ≤ x) (h1 : x < ln S a) : wp 120 25 [l0, l1, l2, l3] [.inl z, .inl x, .inr a] (hp S D) Q ↔ wp 120 26 [l0, l1, l2, l3] [] (hp S (up D a x.toNat z)) Q := w_iast dX9_happens_25 ha h8 h0 h1
theorem s120_26  : wp 120 26 [l0, l1, l2, .inl x] [] h Q ↔ wp 120 29 [l0, l1, l2, .inl (w32 (x + 1))] [] h Q := wp_step dX9_happens_26 (fun _ => rfl)
theorem s120_29  : wp 120 29 [l0, l1, l2, l3] [] h Q ↔ wp 120 12 [l0, l1, l2, l3] [] h Q := w_goto dX9_happens_29 (by decide)
theorem s120_32 (h0 : a ≠ 0) : wp 120 32 [.inr a, l1, l2, l3] [] h Q ↔ wp 120 33 [.inr a, l1, l2, l3] [.inr a] h Q := wp_step dX9_happens_32 (fun _ => if_neg h0)
theorem s120_33  : wp 120 33 [l0, l1, l2, l3] [v0] h Q ↔ wp 120 35 [l0, l1, l2, l3] [.inl 80, v0] h Q := w_const2 dX9_happens_33 k_80 k8_80
theorem s120_35  : wp 120 35 [l0, l1, l2, l3] [p, q] h Q ↔ wp 120 36 [l0, l1, l2, l3] [p, q, p, q] h Q := wp_step dX9_happens_35 (fun _ => rfl)
theorem s120_36 (ha : tg a = 100) (h0 : 0 ≤ x) (h1 : x < ln S a) : wp 120 36 [l0, l1, l2, l3] [.inl x, .inr a, v0, v1] (hp S D) Q ↔ wp 120 37 [l0, l1, l2, l3] [.inl (rd S D a x.toNat), v0, v1] (hp S D) Q := w_iald dX9_happens_36 ha h0 h1
theorem s120_37  : wp 120 37 [l0, l1, l2, l3] [v0, v1, v2] h Q ↔ wp 120 38 [l0, l1, l2, l3] [.inl 1, v0, v1, v2] h Q := w_const1 dX9_happens_37 k_1
theorem s120_38  : wp 120 38 [l0, l1, l2, l3] [.inl z, .inl x, v0, v1] h Q ↔ wp 120 39 [l0, l1, l2, l3] [.inl (w32 (x - z)), v0, v1] h Q := wp_step dX9_happens_38 (fun _ => rfl)
theorem s120_39 (ha : tg a = 100) (h8 : 8 ≤ a) (h0 : 0 ≤ x) (h1 : x < ln S a) : wp 120 39 [l0, l1, l2, l3] [.inl z, .inl x, .inr a] (hp S D) Q ↔ wp 120 40 [l0, l1, l2, l3] [] (hp S (up D a x.toNat z)) Q := w_iast dX9_happens_39 ha h8 h0 h1
theorem s120_40  : wp 120 40 [l0, l1, l2, l3] [] h Q ↔ wp 120 42 [l0, l1, l2, l3] [.inl 81] h Q := w_const2 dX9_happens_40 k_81 k8_81
theorem s120_42  : wp 120 42 [l0, l1, l2, l3] [v0] h Q ↔ wp 120 43 [l0, l1, l2, l3] [.inl 3, v0] h Q := w_const1 dX9_happens_42 k_3
theorem s120_43 (h0 : a ≠ 0) : wp 120 43 [.inr a, l1, l2, l3] [v0, v1] h Q ↔ wp 120 44 [.inr a, l1, l2, l3] [.inr a, v0, v1] h Q := wp_step dX9_happens_43 (fun _ => if_neg h0)
theorem s120_44  : wp 120 44 [l0, l1, l2, l3] [v0, v1, v2] h Q ↔ wp 120 46 [l0, l1, l2, l3] [.inl 80, v0, v1, v2] h Q := w_const2 dX9_happens_44 k_80 k8_80
theorem s120_46 (ha : tg a = 100) (h0 : 0 ≤ x) (h1 : x < ln S a) : wp 120 46 [l0, l1, l2, l3] [.inl x, .inr a, v0, v1] (hp S D) Q ↔ wp 120 47 [l0, l1, l2, l3] [.inl (rd S D a x.toNat), v0, v1] (hp S D) Q := w_iald dX9_happens_46 ha h0 h1
theorem s120_47  : wp 120 47 [l0, l1, l2, l3] [.inl z, .inl x, v0] h Q ↔ wp 120 48 [l0, l1, l2, l3] [.inl (w32 (x * z)), v0] h Q := wp_step dX9_happens_47 (fun _ => rfl)
theorem s120_48  : wp 120 48 [l0, l1, l2, l3] [.inl z, .inl x] h Q ↔ wp 120 49 [l0, l1, l2, l3] [.inl (w32 (x + z))] h Q := wp_step dX9_happens_48 (fun _ => rfl)
theorem s120_49  : wp 120 49 [l0, l1, l2, l3] [.inl x] h Q ↔ wp 120 50 [l0, l1, l2, .inl x] [] h Q := wp_step dX9_happens_49 (fun _ => rfl)
theorem s120_50 (h0 : a ≠ 0) : wp 120 50 [.inr a, l1, l2, l3] [] h Q ↔ wp 120 51 [.inr a, l1, l2, l3] [.inr a] h Q := wp_step dX9_happens_50 (fun _ => if_neg h0)
theorem s120_51  : wp 120 51 [l0, l1, l2, .inl x] [v0] h Q ↔ wp 120 52 [l0, l1, l2, .inl x] [.inl x, v0] h Q := wp_step dX9_happens_51 (fun _ => rfl)
theorem s120_52  : wp 120 52 [l0, .inl x, l2, l3] [v0, v1] h Q ↔ wp 120 53 [l0, .inl x, l2, l3] [.inl x, v0, v1] h Q := wp_step dX9_happens_52 (fun _ => rfl)
theorem s120_53 (ha : tg a = 100) (h8 : 8 ≤ a) (h0 : 0 ≤ x) (h1 : x < ln S a) : wp 120 53 [l0, l1, l2, l3] [.inl z, .inl x, .inr a] (hp S D) Q ↔ wp 120 54 [l0, l1, l2, l3] [] (hp S (up D a x.toNat z)) Q := w_iast dX9_happens_53 ha h8 h0 h1
theorem s120_54 (h0 : a ≠ 0) : wp 120 54 [.inr a, l1, l2, l3] [] h Q ↔ wp 120 55 [.inr a, l1, l2, l3] [.inr a] h Q := wp_step dX9_happens_54 (fun _ => if_neg h0)
theorem s120_55  : wp 120 55 [l0, l1, l2, .inl x] [v0] h Q ↔ wp 120 56 [l0, l1, l2, .inl x] [.inl x, v0] h Q := wp_step dX9_happens_55 (fun _ => rfl)
theorem s120_56  : wp 120 56 [l0, l1, l2, l3] [v0, v1] h Q ↔ wp 120 57 [l0, l1, l2, l3] [.inl 1, v0, v1] h Q := w_const1 dX9_happens_56 k_1
theorem s120_57  : wp 120 57 [l0, l1, l2, l3] [.inl z, .inl x, v0] h Q ↔ wp 120 58 [l0, l1, l2, l3] [.inl (w32 (x + z)), v0] h Q := wp_step dX9_happens_57 (fun _ => rfl)
theorem s120_58  : wp 120 58 [l0, l1, .inl x, l3] [v0, v1] h Q ↔ wp 120 59 [l0, l1, .inl x, l3] [.inl x, v0, v1] h Q := wp_step dX9_happens_58 (fun _ => rfl)
theorem s120_59 (ha : tg a = 100) (h8 : 8 ≤ a) (h0 : 0 ≤ x) (h1 : x < ln S a) : wp 120 59 [l0, l1, l2, l3] [.inl z, .inl x, .inr a] (hp S D) Q ↔ wp 120 60 [l0, l1, l2, l3] [] (hp S (up D a x.toNat z)) Q := w_iast dX9_happens_59 ha h8 h0 h1
theorem s120_60 (h0 : a ≠ 0) : wp 120 60 [.inr a, l1, l2, l3] [] h Q ↔ wp 120 61 [.inr a, l1, l2, l3] [.inr a] h Q := wp_step dX9_happens_60 (fun _ => if_neg h0)
theorem s120_61  : wp 120 61 [l0, l1, l2, .inl x] [v0] h Q ↔ wp 120 62 [l0, l1, l2, .inl x] [.inl x, v0] h Q := wp_step dX9_happens_61 (fun _ => rfl)
theorem s120_62  : wp 120 62 [l0, l1, l2, l3] [v0, v1] h Q ↔ wp 120 63 [l0, l1, l2, l3] [.inl 2, v0, v1] h Q := w_const1 dX9_happens_62 k_2
theorem s120_63  : wp 120 63 [l0, l1, l2, l3] [.inl z, .inl x, v0] h Q ↔ wp 120 64 [l0, l1, l2, l3] [.inl (w32 (x + z)), v0] h Q := wp_step dX9_happens_63 (fun _ => rfl)
theorem s120_64 (h0 : a ≠ 0) : wp 120 64 [.inr a, l1, l2, l3] [v0, v1] h Q ↔ wp 120 65 [.inr a, l1, l2, l3] [.inr a, v0, v1] h Q := wp_step dX9_happens_64 (fun _ => if_neg h0)
theorem s120_65  : wp 120 65 [l0, l1, l2, l3] [v0, v1, v2] h Q ↔ wp 120 66 [l0, l1, l2, l3] [.inl 0, v0, v1, v2] h Q := w_const1 dX9_happens_65 k_0
theorem s120_66 (ha : tg a = 100) (h0 : 0 ≤ x) (h1 : x < ln S a) : wp 120 66 [l0, l1, l2, l3] [.inl x, .inr a, v0, v1] (hp S D) Q ↔ wp 120 67 [l0, l1, l2, l3] [.inl (rd S D a x.toNat), v0, v1] (hp S D) Q := w_iald dX9_happens_66 ha h0 h1
theorem s120_67 (ha : tg a = 100) (h8 : 8 ≤ a) (h0 : 0 ≤ x) (h1 : x < ln S a) : wp 120 67 [l0, l1, l2, l3] [.inl z, .inl x, .inr a] (hp S D) Q ↔ wp 120 68 [l0, l1, l2, l3] [] (hp S (up D a x.toNat z)) Q := w_iast dX9_happens_67 ha h8 h0 h1
theorem s120_68 (h0 : a ≠ 0) : wp 120 68 [.inr a, l1, l2, l3] [] h Q ↔ wp 120 69 [.inr a, l1, l2, l3] [.inr a] h Q := wp_step dX9_happens_68 (fun _ => if_neg h0)
theorem s120_69  : wp 120 69 [l0, l1, l2, l3] [v0] h Q ↔ wp 120 71 [l0, l1, l2, l3] [.inl 80, v0] h Q := w_const2 dX9_happens_69 k_80 k8_80
theorem s120_71  : wp 120 71 [l0, l1, l2, l3] [p, q] h Q ↔ wp 120 72 [l0, l1, l2, l3] [p, q, p, q] h Q := wp_step dX9_happens_71 (fun _ => rfl)
theorem s120_72 (ha : tg a = 100) (h0 : 0 ≤ x) (h1 : x < ln S a) : wp 120 72 [l0, l1, l2, l3] [.inl x, .inr a, v0, v1] (hp S D) Q ↔ wp 120 73 [l0, l1, l2, l3] [.inl (rd S D a x.toNat), v0, v1] (hp S D) Q := w_iald dX9_happens_72 ha h0 h1
theorem s120_73  : wp 120 73 [l0, l1, l2, l3] [v0, v1, v2] h Q ↔ wp 120 74 [l0, l1, l2, l3] [.inl 1, v0, v1, v2] h Q := w_const1 dX9_happens_73 k_1
theorem s120_74  : wp 120 74 [l0, l1, l2, l3] [.inl z, .inl x, v0, v1] h Q ↔ wp 120 75 [l0, l1, l2, l3] [.inl (w32 (x + z)), v0, v1] h Q := wp_step dX9_happens_74 (fun _ => rfl)
theorem s120_75 (ha : tg a = 100) (h8 : 8 ≤ a) (h0 : 0 ≤ x) (h1 : x < ln S a) : wp 120 75 [l0, l1, l2, l3] [.inl z, .inl x, .inr a] (hp S D) Q ↔ wp 120 76 [l0, l1, l2, l3] [] (hp S (up D a x.toNat z)) Q := w_iast dX9_happens_75 ha h8 h0 h1
theorem s120_76 (h0 : a ≠ 0) : wp 120 76 [.inr a, l1, l2, l3] [] h Q ↔ wp 120 77 [.inr a, l1, l2, l3] [.inr a] h Q := wp_step dX9_happens_76 (fun _ => if_neg h0)
theorem s120_77  : wp 120 77 [l0, l1, l2, l3] [v0] h Q ↔ wp 120 79 [l0, l1, l2, l3] [.inl 47, v0] h Q := w_const2 dX9_happens_77 k_47 k8_47
theorem s120_79  : wp 120 79 [l0, l1, l2, l3] [p, q] h Q ↔ wp 120 80 [l0, l1, l2, l3] [p, q, p, q] h Q := wp_step dX9_happens_79 (fun _ => rfl)
theorem s120_80 (ha : tg a = 100) (h0 : 0 ≤ x) (h1 : x < ln S a) : wp 120 80 [l0, l1, l2, l3] [.inl x, .inr a, v0, v1] (hp S D) Q ↔ wp 120 81 [l0, l1, l2, l3] [.inl (rd S D a x.toNat), v0, v1] (hp S D) Q := w_iald dX9_happens_80 ha h0 h1
theorem s120_81  : wp 120 81 [l0, .inl x, l2, l3] [v0, v1, v2] h Q ↔ wp 120 82 [l0, .inl x, l2, l3] [.inl x, v0, v1, v2] h Q := wp_step dX9_happens_81 (fun _ => rfl)
theorem s120_82  : wp 120 82 [l0, l1, l2, l3] [v0, v1, v2, v3] h Q ↔ wp 120 83 [l0, l1, l2, l3] [.inl 4, v0, v1, v2, v3] h Q := w_const1 dX9_happens_82 k_4
theorem s120_83  : wp 120 83 [l0, l1, l2, l3] [.inl z, .inl x, v0, v1, v2] h Q ↔ if x < z then wp 120 86 [l0, l1, l2, l3] [v0, v1, v2] h Q else wp 120 90 [l0, l1, l2, l3] [v0, v1, v2] h Q := w_cge dX9_happens_83 (by decide)
theorem s120_86  : wp 120 86 [l0, l1, l2, l3] [v0, v1, v2] h Q ↔ wp 120 87 [l0, l1, l2, l3] [.inl 1, v0, v1, v2] h Q := w_const1 dX9_happens_86 k_1
theorem s120_87  : wp 120 87 [l0, l1, l2, l3] [v0, v1, v2, v3] h Q ↔ wp 120 91 [l0, l1, l2, l3] [v0, v1, v2, v3] h Q := w_goto dX9_happens_87 (by decide)
theorem s120_90  : wp 120 90 [l0, l1, l2, l3] [v0, v1, v2] h Q ↔ wp 120 91 [l0, l1, l2, l3] [.inl 0, v0, v1, v2] h Q := w_const1 dX9_happens_90 k_0
theorem s120_91  : wp 120 91 [l0, l1, l2, l3] [.inl z, .inl x, v0, v1] h Q ↔ wp 120 92 [l0, l1, l2, l3] [.inl (w32 (x + z)), v0, v1] h Q := wp_step dX9_happens_91 (fun _ => rfl)
theorem s120_92 (ha : tg a = 100) (h8 : 8 ≤ a) (h0 : 0 ≤ x) (h1 : x < ln S a) : wp 120 92 [l0, l1, l2, l3] [.inl z, .inl x, .inr a] (hp S D) Q ↔ wp 120 93 [l0, l1, l2, l3] [] (hp S (up D a x.toNat z)) Q := w_iast dX9_happens_92 ha h8 h0 h1
theorem s120_93  : wp 120 93 [l0, l1, l2, l3] [] h Q ↔ Q none h := w_retv dX9_happens_93 (by decide +kernel)
theorem s121_0 (h0 : a ≠ 0) : wp 121 0 [.inr a, l1] [] h Q ↔ wp 121 1 [.inr a, l1] [.inr a] h Q := wp_step dX9_turns_0 (fun _ => if_neg h0)
theorem s121_1  : wp 121 1 [l0, l1] [v0] h Q ↔ wp 121 3 [l0, l1] [.inl 8, v0] h Q := w_const2 dX9_turns_1 k_8 k8_8
theorem s121_3  : wp 121 3 [l0, .inl x] [v0, v1] h Q ↔ wp 121 4 [l0, .inl x] [.inl x, v0, v1] h Q := wp_step dX9_turns_3 (fun _ => rfl)
theorem s121_4 (ha : tg a = 100) (h8 : 8 ≤ a) (h0 : 0 ≤ x) (h1 : x < ln S a) : wp 121 4 [l0, l1] [.inl z, .inl x, .inr a] (hp S D) Q ↔ wp 121 5 [l0, l1] [] (hp S (up D a x.toNat z)) Q := w_iast dX9_turns_4 ha h8 h0 h1
theorem s121_5 (h0 : a ≠ 0) : wp 121 5 [.inr a, l1] [] h Q ↔ wp 121 6 [.inr a, l1] [.inr a] h Q := wp_step dX9_turns_5 (fun _ => if_neg h0)
theorem s121_6  : wp 121 6 [l0, l1] [v0] h Q ↔ wp 121 8 [l0, l1] [.inl 9, v0] h Q := w_const2 dX9_turns_6 k_9 k8_9
theorem s121_8  : wp 121 8 [l0, .inl x] [v0, v1] h Q ↔ wp 121 9 [l0, .inl x] [.inl x, v0, v1] h Q := wp_step dX9_turns_8 (fun _ => rfl)
theorem s121_9 (h0 : a ≠ 0) : wp 121 9 [.inr a, l1] [v0, v1, v2] h Q ↔ wp 121 10 [.inr a, l1] [.inr a, v0, v1, v2] h Q := wp_step dX9_turns_9 (fun _ => if_neg h0)
theorem s121_10  : wp 121 10 [l0, l1] [v0, v1, v2, v3] h Q ↔ wp 121 12 [l0, l1] [.inl 7, v0, v1, v2, v3] h Q := w_const2 dX9_turns_10 k_7 k8_7
theorem s121_12 (ha : tg a = 100) (h0 : 0 ≤ x) (h1 : x < ln S a) : wp 121 12 [l0, l1] [.inl x, .inr a, v0, v1, v2] (hp S D) Q ↔ wp 121 13 [l0, l1] [.inl (rd S D a x.toNat), v0, v1, v2] (hp S D) Q := w_iald dX9_turns_12 ha h0 h1
theorem s121_13  : wp 121 13 [l0, l1] [.inl z, .inl x, v0, v1] h Q ↔ wp 121 14 [l0, l1] [.inl (w32 (x - z)), v0, v1] h Q := wp_step dX9_turns_13 (fun _ => rfl)
theorem s121_14  : wp 121 14 [l0, l1] [v0, v1, v2] h Q ↔ wp 121 16 [l0, l1] [.inl 6, v0, v1, v2] h Q := w_const2 dX9_turns_14 k_6 k8_6
theorem s121_16  : wp 121 16 [l0, l1] [.inl z, .inl x, v0, v1] h Q ↔ wp 121 17 [l0, l1] [.inl (w32 (x + z)), v0, v1] h Q := wp_step dX9_turns_16 (fun _ => rfl)
theorem s121_17  : wp 121 17 [l0, l1] [v0, v1, v2] h Q ↔ wp 121 19 [l0, l1] [.inl 6, v0, v1, v2] h Q := w_const2 dX9_turns_17 k_6 k8_6
theorem s121_19 (h0 : z ≠ 0) : wp 121 19 [l0, l1] [.inl z, .inl x, v0, v1] h Q ↔ wp 121 20 [l0, l1] [.inl (w32 (x.tmod z)), v0, v1] h Q := w_rem dX9_turns_19 h0
theorem s121_20 (h0 : a ≠ 0) : wp 121 20 [.inr a, l1] [v0, v1, v2] h Q ↔ wp 121 21 [.inr a, l1] [.inr a, v0, v1, v2] h Q := wp_step dX9_turns_20 (fun _ => if_neg h0)
theorem s121_21  : wp 121 21 [l0, l1] [v0, v1, v2, v3] h Q ↔ wp 121 22 [l0, l1] [.inl 5, v0, v1, v2, v3] h Q := w_const1 dX9_turns_21 k_5
theorem s121_22 (ha : tg a = 100) (h0 : 0 ≤ x) (h1 : x < ln S a) : wp 121 22 [l0, l1] [.inl x, .inr a, v0, v1, v2] (hp S D) Q ↔ wp 121 23 [l0, l1] [.inl (rd S D a x.toNat), v0, v1, v2] (hp S D) Q := w_iald dX9_turns_22 ha h0 h1
theorem s121_23  : wp 121 23 [l0, l1] [.inl z, .inl x, v0, v1] h Q ↔ wp 121 24 [l0, l1] [.inl (w32 (x * z)), v0, v1] h Q := wp_step dX9_turns_23 (fun _ => rfl)
theorem s121_24 (ha : tg a = 100) (h8 : 8 ≤ a) (h0 : 0 ≤ x) (h1 : x < ln S a) : wp 121 24 [l0, l1] [.inl z, .inl x, .inr a] (hp S D) Q ↔ wp 121 25 [l0, l1] [] (hp S (up D a x.toNat z)) Q := w_iast dX9_turns_24 ha h8 h0 h1
theorem s121_25 (h0 : a ≠ 0) : wp 121 25 [.inr a, l1] [] h Q ↔ wp 121 26 [.inr a, l1] [.inr a] h Q := wp_step dX9_turns_25 (fun _ => if_neg h0)
theorem s121_26  : wp 121 26 [l0, l1] [v0] h Q ↔ wp 121 28 [l0, l1] [.inl 10, v0] h Q := w_const2 dX9_turns_26 k_10 k8_10
theorem s121_28  : wp 121 28 [l0, l1] [v0, v1] h Q ↔ wp 121 29 [l0, l1] [.inl 0, v0, v1] h Q := w_const1 dX9_turns_28 k_0
theorem s121_29 (ha : tg a = 100) (h8 : 8 ≤ a) (h0 : 0 ≤ x) (h1 : x < ln S a) : wp 121 29 [l0, l1] [.inl z, .inl x, .inr a] (hp S D) Q ↔ wp 121 30 [l0, l1] [] (hp S (up D a x.toNat z)) Q := w_iast dX9_turns_29 ha h8 h0 h1
theorem s121_30  : wp 121 30 [l0, l1] [] h Q ↔ Q none h := w_retv dX9_turns_30 (by decide +kernel)
theorem s122_0 (h0 : a ≠ 0) : wp 122 0 [.inr a, l1] [] h Q ↔ wp 122 1 [.inr a, l1] [.inr a] h Q := wp_step dX9_isNight_0 (fun _ => if_neg h0)
theorem s122_1  : wp 122 1 [l0, l1] [v0] h Q ↔ wp 122 2 [l0, l1] [.inl 0, v0] h Q := w_const1 dX9_isNight_1 k_0
theorem s122_2 (ha : tg a = 100) (h0 : 0 ≤ x) (h1 : x < ln S a) : wp 122 2 [l0, l1] [.inl x, .inr a] (hp S D) Q ↔ wp 122 3 [l0, l1] [.inl (rd S D a x.toNat)] (hp S D) Q := w_iald dX9_isNight_2 ha h0 h1
theorem s122_3  : wp 122 3 [l0, l1] [v0] h Q ↔ wp 122 5 [l0, l1] [.inl 48, v0] h Q := w_const2 dX9_isNight_3 k_48 k8_48
theorem s122_5 (h0 : z ≠ 0) : wp 122 5 [l0, l1] [.inl z, .inl x] h Q ↔ wp 122 6 [l0, l1] [.inl (w32 (x.tmod z))] h Q := w_rem dX9_isNight_5 h0
theorem s122_6  : wp 122 6 [l0, l1] [.inl x] h Q ↔ wp 122 7 [l0, .inl x] [] h Q := wp_step dX9_isNight_6 (fun _ => rfl)
theorem s122_7  : wp 122 7 [l0, .inl x] [] h Q ↔ wp 122 8 [l0, .inl x] [.inl x] h Q := wp_step dX9_isNight_7 (fun _ => rfl)
theorem s122_8 (h0 : a ≠ 0) : wp 122 8 [.inr a, l1] [v0] h Q ↔ wp 122 9 [.inr a, l1] [.inr a, v0] h Q := wp_step dX9_isNight_8 (fun _ => if_neg h0)
theorem s122_9  : wp 122 9 [l0, l1] [v0, v1] h Q ↔ wp 122 10 [l0, l1] [.inl 1, v0, v1] h Q := w_const1 dX9_isNight_9 k_1
theorem s122_10 (ha : tg a = 100) (h0 : 0 ≤ x) (h1 : x < ln S a) : wp 122 10 [l0, l1] [.inl x, .inr a, v0] (hp S D) Q ↔ wp 122 11 [l0, l1] [.inl (rd S D a x.toNat), v0] (hp S D) Q := w_iald dX9_isNight_10 ha h0 h1
theorem s122_11  : wp 122 11 [l0, l1] [.inl z, .inl x] h Q ↔ wp 122 12 [l0, l1] [.inl (w32 (x - z))] h Q := wp_step dX9_isNight_11 (fun _ => rfl)
theorem s122_12  : wp 122 12 [l0, l1] [v0] h Q ↔ wp 122 14 [l0, l1] [.inl 48, v0] h Q := w_const2 dX9_isNight_12 k_48 k8_48
theorem s122_14  : wp 122 14 [l0, l1] [.inl z, .inl x] h Q ↔ wp 122 15 [l0, l1] [.inl (w32 (x + z))] h Q := wp_step dX9_isNight_14 (fun _ => rfl)
theorem s122_15  : wp 122 15 [l0, l1] [v0] h Q ↔ wp 122 17 [l0, l1] [.inl 48, v0] h Q := w_const2 dX9_isNight_15 k_48 k8_48
theorem s122_17 (h0 : z ≠ 0) : wp 122 17 [l0, l1] [.inl z, .inl x] h Q ↔ wp 122 18 [l0, l1] [.inl (w32 (x.tmod z))] h Q := w_rem dX9_isNight_17 h0
theorem s122_18 (h0 : a ≠ 0) : wp 122 18 [.inr a, l1] [v0] h Q ↔ wp 122 19 [.inr a, l1] [.inr a, v0] h Q := wp_step dX9_isNight_18 (fun _ => if_neg h0)
theorem s122_19  : wp 122 19 [l0, l1] [v0, v1] h Q ↔ wp 122 20 [l0, l1] [.inl 2, v0, v1] h Q := w_const1 dX9_isNight_19 k_2
theorem s122_20 (ha : tg a = 100) (h0 : 0 ≤ x) (h1 : x < ln S a) : wp 122 20 [l0, l1] [.inl x, .inr a, v0] (hp S D) Q ↔ wp 122 21 [l0, l1] [.inl (rd S D a x.toNat), v0] (hp S D) Q := w_iald dX9_isNight_20 ha h0 h1
theorem s122_21 (h0 : a ≠ 0) : wp 122 21 [.inr a, l1] [v0, v1] h Q ↔ wp 122 22 [.inr a, l1] [.inr a, v0, v1] h Q := wp_step dX9_isNight_21 (fun _ => if_neg h0)
theorem s122_22  : wp 122 22 [l0, l1] [v0, v1, v2] h Q ↔ wp 122 23 [l0, l1] [.inl 1, v0, v1, v2] h Q := w_const1 dX9_isNight_22 k_1
theorem s122_23 (ha : tg a = 100) (h0 : 0 ≤ x) (h1 : x < ln S a) : wp 122 23 [l0, l1] [.inl x, .inr a, v0, v1] (hp S D) Q ↔ wp 122 24 [l0, l1] [.inl (rd S D a x.toNat), v0, v1] (hp S D) Q := w_iald dX9_isNight_23 ha h0 h1
theorem s122_24  : wp 122 24 [l0, l1] [.inl z, .inl x, v0] h Q ↔ wp 122 25 [l0, l1] [.inl (w32 (x - z)), v0] h Q := wp_step dX9_isNight_24 (fun _ => rfl)
theorem s122_25  : wp 122 25 [l0, l1] [v0, v1] h Q ↔ wp 122 27 [l0, l1] [.inl 48, v0, v1] h Q := w_const2 dX9_isNight_25 k_48 k8_48
theorem s122_27  : wp 122 27 [l0, l1] [.inl z, .inl x, v0] h Q ↔ wp 122 28 [l0, l1] [.inl (w32 (x + z)), v0] h Q := wp_step dX9_isNight_27 (fun _ => rfl)
theorem s122_28  : wp 122 28 [l0, l1] [v0, v1] h Q ↔ wp 122 30 [l0, l1] [.inl 48, v0, v1] h Q := w_const2 dX9_isNight_28 k_48 k8_48
theorem s122_30 (h0 : z ≠ 0) : wp 122 30 [l0, l1] [.inl z, .inl x, v0] h Q ↔ wp 122 31 [l0, l1] [.inl (w32 (x.tmod z)), v0] h Q := w_rem dX9_isNight_30 h0
theorem s122_31  : wp 122 31 [l0, l1] [.inl z, .inl x] h Q ↔ if x < z then wp 122 34 [l0, l1] [] h Q else wp 122 38 [l0, l1] [] h Q := w_cge dX9_isNight_31 (by decide)
theorem s122_34  : wp 122 34 [l0, l1] [] h Q ↔ wp 122 35 [l0, l1] [.inl 1] h Q := w_const1 dX9_isNight_34 k_1
theorem s122_35  : wp 122 35 [l0, l1] [v0] h Q ↔ wp 122 39 [l0, l1] [v0] h Q := w_goto dX9_isNight_35 (by decide)
theorem s122_38  : wp 122 38 [l0, l1] [] h Q ↔ wp 122 39 [l0, l1] [.inl 0] h Q := w_const1 dX9_isNight_38 k_0
theorem s122_39 (h0 : x = 0 ∨ x = 1) : wp 122 39 [l0, l1] [.inl x] h Q ↔ Q (some (.inl x)) h := w_reti dX9_isNight_39 (e_rz (by decide +kernel) h0)
theorem s123_0 (h0 : a ≠ 0) : wp 123 0 [.inr a, l1] [] h Q ↔ wp 123 1 [.inr a, l1] [.inr a] h Q := wp_step dX9_burns_0 (fun _ => if_neg h0)
theorem s123_1  : wp 123 1 [l0, .inl x] [v0] h Q ↔ wp 123 2 [l0, .inl x] [.inl x, v0] h Q := wp_step dX9_burns_1 (fun _ => rfl)
theorem s123_2  : wp 123 2 [l0, l1] [v0, v1] h Q ↔ wp 123 3 [l0, l1] [.inl 2, v0, v1] h Q := w_const1 dX9_burns_2 k_2
theorem s123_3 (h0 : a ≠ 0) : wp 123 3 [.inr a, l1] [v0, v1, v2] h Q ↔ wp 123 4 [.inr a, l1] [.inr a, v0, v1, v2] h Q := wp_step dX9_burns_3 (fun _ => if_neg h0)
theorem s123_4  : wp 123 4 [l0, .inl x] [v0, v1, v2, v3] h Q ↔ wp 123 5 [l0, .inl x] [.inl x, v0, v1, v2, v3] h Q := wp_step dX9_burns_4 (fun _ => rfl)
theorem s123_5  : wp 123 5 [l0, l1] [v0, v1, v2, v3, v4] h Q ↔ wp 123 6 [l0, l1] [.inl 2, v0, v1, v2, v3, v4] h Q := w_const1 dX9_burns_5 k_2
theorem s123_6  : wp 123 6 [l0, l1] [p2, p1, p0, v0, v1, v2] h Q ↔ wp 106 0 [p0, p1, p2] [] h (kont 123 9 [l0, l1] [v0, v1, v2] Q) := w_callS (y2 := 106) (kd := 0) (vs := [p0, p1, p2]) (st := [v0, v1, v2]) dX9_burns_6 (by decide +kernel) (by decide) rfl (by decide +kernel) (Nat.le_of_ble_eq_true rfl) (by simp)
theorem s123_9  : wp 123 9 [l0, l1] [v0, v1, v2, v3] h Q ↔ wp 123 10 [l0, l1] [.inl 1, v0, v1, v2, v3] h Q := w_const1 dX9_burns_9 k_1
theorem s123_10  : wp 123 10 [l0, l1] [.inl z, .inl x, v0, v1, v2] h Q ↔ wp 123 11 [l0, l1] [.inl (w32 (x + z)), v0, v1, v2] h Q := wp_step dX9_burns_10 (fun _ => rfl)
theorem s123_11  : wp 123 11 [l0, l1] [p3, p2, p1, p0] h Q ↔ wp 107 0 [p0, p1, p2, p3] [] h (kont 123 14 [l0, l1] [] Q) := w_callS (y2 := 107) (kd := 0) (vs := [p0, p1, p2, p3]) (st := []) dX9_burns_11 (by decide +kernel) (by decide) rfl (by decide +kernel) (Nat.le_of_ble_eq_true rfl) (by simp)
theorem s123_14 (h0 : a ≠ 0) : wp 123 14 [.inr a, l1] [] h Q ↔ wp 123 15 [.inr a, l1] [.inr a] h Q := wp_step dX9_burns_14 (fun _ => if_neg h0)
theorem s123_15  : wp 123 15 [l0, .inl x] [v0] h Q ↔ wp 123 16 [l0, .inl x] [.inl x, v0] h Q := wp_step dX9_burns_15 (fun _ => rfl)
theorem s123_16  : wp 123 16 [l0, l1] [v0, v1] h Q ↔ wp 123 17 [l0, l1] [.inl 4, v0, v1] h Q := w_const1 dX9_burns_16 k_4
theorem s123_17 (h0 : a ≠ 0) : wp 123 17 [.inr a, l1] [v0, v1, v2] h Q ↔ wp 123 18 [.inr a, l1] [.inr a, v0, v1, v2] h Q := wp_step dX9_burns_17 (fun _ => if_neg h0)
theorem s123_18  : wp 123 18 [l0, .inl x] [v0, v1, v2, v3] h Q ↔ wp 123 19 [l0, .inl x] [.inl x, v0, v1, v2, v3] h Q := wp_step dX9_burns_18 (fun _ => rfl)
theorem s123_19  : wp 123 19 [l0, l1] [p1, p0, v0, v1, v2] h Q ↔ wp 116 0 [p0, p1] [] h (kont 123 22 [l0, l1] [v0, v1, v2] Q) := w_callS (y2 := 116) (kd := 0) (vs := [p0, p1]) (st := [v0, v1, v2]) dX9_burns_19 (by decide +kernel) (by decide) rfl (by decide +kernel) (Nat.le_of_ble_eq_true rfl) (by simp)
theorem s123_22  : wp 123 22 [l0, l1] [.inl x, v0, v1, v2] h Q ↔ if x = 0 then wp 123 36 [l0, l1] [v0, v1, v2] h Q else wp 123 25 [l0, l1] [v0, v1, v2] h Q := w_eq0 dX9_burns_22 (by decide)
theorem s123_25 (h0 : a ≠ 0) : wp 123 25 [.inr a, l1] [v0, v1, v2] h Q ↔ wp 123 26 [.inr a, l1] [.inr a, v0, v1, v2] h Q := wp_step dX9_burns_25 (fun _ => if_neg h0)
theorem s123_26  : wp 123 26 [l0, .inl x] [v0, v1, v2, v3] h Q ↔ wp 123 27 [l0, .inl x] [.inl x, v0, v1, v2, v3] h Q := wp_step dX9_burns_26 (fun _ => rfl)
theorem s123_27  : wp 123 27 [l0, l1] [v0, v1, v2, v3, v4] h Q ↔ wp 123 28 [l0, l1] [.inl 4, v0, v1, v2, v3, v4] h Q := w_const1 dX9_burns_27 k_4
theorem s123_28  : wp 123 28 [l0, l1] [p2, p1, p0, v0, v1, v2] h Q ↔ wp 106 0 [p0, p1, p2] [] h (kont 123 31 [l0, l1] [v0, v1, v2] Q) := w_callS (y2 := 106) (kd := 0) (vs := [p0, p1, p2]) (st := [v0, v1, v2]) dX9_burns_28 (by decide +kernel) (by decide) rfl (by decide +kernel) (Nat.le_of_ble_eq_true rfl) (by simp)
theorem s123_31  : wp 123 31 [l0, l1] [v0, v1, v2, v3] h Q ↔ wp 123 32 [l0, l1] [.inl 1, v0, v1, v2, v3] h Q := w_const1 dX9_burns_31 k_1
theorem s123_32  : wp 123 32 [l0, l1] [.inl z, .inl x, v0, v1, v2] h Q ↔ wp 123 33 [l0, l1] [.inl (w32 (x + z)), v0, v1, v2] h Q := wp_step dX9_burns_32 (fun _ => rfl)
theorem s123_33  : wp 123 33 [l0, l1] [v0, v1, v2, v3] h Q ↔ wp 123 37 [l0, l1] [v0, v1, v2, v3] h Q := w_goto dX9_burns_33 (by decide)
theorem s123_36  : wp 123 36 [l0, l1] [v0, v1, v2] h Q ↔ wp 123 37 [l0, l1] [.inl 0, v0, v1, v2] h Q := w_const1 dX9_burns_36 k_0
theorem s123_37  : wp 123 37 [l0, l1] [p3, p2, p1, p0] h Q ↔ wp 107 0 [p0, p1, p2, p3] [] h (kont 123 40 [l0, l1] [] Q) := w_callS (y2 := 107) (kd := 0) (vs := [p0, p1, p2, p3]) (st := []) dX9_burns_37 (by decide +kernel) (by decide) rfl (by decide +kernel) (Nat.le_of_ble_eq_true rfl) (by simp)
theorem s123_40 (h0 : a ≠ 0) : wp 123 40 [.inr a, l1] [] h Q ↔ wp 123 41 [.inr a, l1] [.inr a] h Q := wp_step dX9_burns_40 (fun _ => if_neg h0)
theorem s123_41  : wp 123 41 [l0, .inl x] [v0] h Q ↔ wp 123 42 [l0, .inl x] [.inl x, v0] h Q := wp_step dX9_burns_41 (fun _ => rfl)
theorem s123_42  : wp 123 42 [l0, l1] [v0, v1] h Q ↔ wp 123 43 [l0, l1] [.inl 4, v0, v1] h Q := w_const1 dX9_burns_42 k_4
theorem s123_43  : wp 123 43 [l0, l1] [p2, p1, p0] h Q ↔ wp 106 0 [p0, p1, p2] [] h (kont 123 46 [l0, l1] [] Q) := w_callS (y2 := 106) (kd := 0) (vs := [p0, p1, p2]) (st := []) dX9_burns_43 (by decide +kernel) (by decide) rfl (by decide +kernel) (Nat.le_of_ble_eq_true rfl) (by simp)
theorem s123_46 (h0 : a ≠ 0) : wp 123 46 [.inr a, l1] [v0] h Q ↔ wp 123 47 [.inr a, l1] [.inr a, v0] h Q := wp_step dX9_burns_46 (fun _ => if_neg h0)
theorem s123_47  : wp 123 47 [l0, l1] [v0, v1] h Q ↔ wp 123 48 [l0, l1] [.inl 4, v0, v1] h Q := w_const1 dX9_burns_47 k_4
theorem s123_48 (ha : tg a = 100) (h0 : 0 ≤ x) (h1 : x < ln S a) : wp 123 48 [l0, l1] [.inl x, .inr a, v0] (hp S D) Q ↔ wp 123 49 [l0, l1] [.inl (rd S D a x.toNat), v0] (hp S D) Q := w_iald dX9_burns_48 ha h0 h1
theorem s123_49  : wp 123 49 [l0, l1] [.inl z, .inl x] h Q ↔ if x < z then wp 123 74 [l0, l1] [] h Q else wp 123 52 [l0, l1] [] h Q := w_clt dX9_burns_49 (by decide)
theorem s123_52 (h0 : a ≠ 0) : wp 123 52 [.inr a, l1] [] h Q ↔ wp 123 53 [.inr a, l1] [.inr a] h Q := wp_step dX9_burns_52 (fun _ => if_neg h0)
theorem s123_53  : wp 123 53 [l0, .inl x] [v0] h Q ↔ wp 123 54 [l0, .inl x] [.inl x, v0] h Q := wp_step dX9_burns_53 (fun _ => rfl)
theorem s123_54  : wp 123 54 [l0, l1] [v0, v1] h Q ↔ wp 123 55 [l0, l1] [.inl 3, v0, v1] h Q := w_const1 dX9_burns_54 k_3
theorem s123_55  : wp 123 55 [l0, l1] [p2, p1, p0] h Q ↔ wp 106 0 [p0, p1, p2] [] h (kont 123 58 [l0, l1] [] Q) := w_callS (y2 := 106) (kd := 0) (vs := [p0, p1, p2]) (st := []) dX9_burns_55 (by decide +kernel) (by decide) rfl (by decide +kernel) (Nat.le_of_ble_eq_true rfl) (by simp)
theorem s123_58  : wp 123 58 [l0, l1] [.inl x] h Q ↔ if x = 0 then wp 123 61 [l0, l1] [] h Q else wp 123 74 [l0, l1] [] h Q := w_ne0 dX9_burns_58 (by decide)
theorem s123_61 (h0 : a ≠ 0) : wp 123 61 [.inr a, l1] [] h Q ↔ wp 123 62 [.inr a, l1] [.inr a] h Q := wp_step dX9_burns_61 (fun _ => if_neg h0)
theorem s123_62  : wp 123 62 [l0, .inl x] [v0] h Q ↔ wp 123 63 [l0, .inl x] [.inl x, v0] h Q := wp_step dX9_burns_62 (fun _ => rfl)
theorem s123_63  : wp 123 63 [l0, l1] [v0, v1] h Q ↔ wp 123 64 [l0, l1] [.inl 3, v0, v1] h Q := w_const1 dX9_burns_63 k_3
theorem s123_64  : wp 123 64 [l0, l1] [v0, v1, v2] h Q ↔ wp 123 65 [l0, l1] [.inl 1, v0, v1, v2] h Q := w_const1 dX9_burns_64 k_1
theorem s123_65  : wp 123 65 [l0, l1] [p3, p2, p1, p0] h Q ↔ wp 107 0 [p0, p1, p2, p3] [] h (kont 123 68 [l0, l1] [] Q) := w_callS (y2 := 107) (kd := 0) (vs := [p0, p1, p2, p3]) (st := []) dX9_burns_65 (by decide +kernel) (by decide) rfl (by decide +kernel) (Nat.le_of_ble_eq_true rfl) (by simp)
theorem s123_68 (h0 : a ≠ 0) : wp 123 68 [.inr a, l1] [] h Q ↔ wp 123 69 [.inr a, l1] [.inr a] h Q := wp_step dX9_burns_68 (fun _ => if_neg h0)
theorem s123_69  : wp 123 69 [l0, l1] [v0] h Q ↔ wp 123 70 [l0, l1] [.inl 1, v0] h Q := w_const1 dX9_burns_69 k_1
theorem s123_70  : wp 123 70 [l0, .inl x] [v0, v1] h Q ↔ wp 123 71 [l0, .inl x] [.inl x, v0, v1] h Q := wp_step dX9_burns_70 (fun _ => rfl)
theorem s123_71  : wp 123 71 [l0, l1] [p2, p1, p0] h Q ↔ wp 120 0 [p0, p1, p2, .inr 0] [] h (kont 123 74 [l0, l1] [] Q) := w_callS (y2 := 120) (kd := 0) (vs := [p0, p1, p2]) (st := []) dX9_burns_71 (by decide +kernel) (by decide) rfl (by decide +kernel) (Nat.le_of_ble_eq_true rfl) (by simp)
theorem s123_74 (h0 : a ≠ 0) : wp 123 74 [.inr a, l1] [] h Q ↔ wp 123 75 [.inr a, l1] [.inr a] h Q := wp_step dX9_burns_74 (fun _ => if_neg h0)
theorem s123_75  : wp 123 75 [l0, l1] [v0] h Q ↔ wp 123 77 [l0, l1] [.inl 10, v0] h Q := w_const2 dX9_burns_75 k_10 k8_10
theorem s123_77  : wp 123 77 [l0, l1] [v0, v1] h Q ↔ wp 123 78 [l0, l1] [.inl 1, v0, v1] h Q := w_const1 dX9_burns_77 k_1
theorem s123_78 (ha : tg a = 100) (h8 : 8 ≤ a) (h0 : 0 ≤ x) (h1 : x < ln S a) : wp 123 78 [l0, l1] [.inl z, .inl x, .inr a] (hp S D) Q ↔ wp 123 79 [l0, l1] [] (hp S (up D a x.toNat z)) Q := w_iast dX9_burns_78 ha h8 h0 h1
theorem s123_79 (h0 : a ≠ 0) : wp 123 79 [.inr a, l1] [] h Q ↔ wp 123 80 [.inr a, l1] [.inr a] h Q := wp_step dX9_burns_79 (fun _ => if_neg h0)
theorem s123_80  : wp 123 80 [l0, .inl x] [v0] h Q ↔ wp 123 81 [l0, .inl x] [.inl x, v0] h Q := wp_step dX9_burns_80 (fun _ => rfl)
theorem s123_81  : wp 123 81 [l0, l1] [p1, p0] h Q ↔ wp 114 0 [p0, p1] [] h (kont 123 84 [l0, l1] [] Q) := w_callS (y2 := 114) (kd := 0) (vs := [p0, p1]) (st := []) dX9_burns_81 (by decide +kernel) (by decide) rfl (by decide +kernel) (Nat.le_of_ble_eq_true rfl) (by simp)
theorem s123_84  : wp 123 84 [l0, l1] [.inl x] h Q ↔ if x = 0 then wp 123 98 [l0, l1] [] h Q else wp 123 87 [l0, l1] [] h Q := w_eq0 dX9_burns_84 (by decide)
theorem s123_87 (h0 : a ≠ 0) : wp 123 87 [.inr a, l1] [] h Q ↔ wp 123 88 [.inr a, l1] [.inr a] h Q := wp_step dX9_burns_87 (fun _ => if_neg h0)
theorem s123_88  : wp 123 88 [l0, l1] [v0] h Q ↔ wp 123 89 [l0, l1] [.inl 0, v0] h Q := w_const1 dX9_burns_88 k_0
theorem s123_89  : wp 123 89 [l0, .inl x] [v0, v1] h Q ↔ wp 123 90 [l0, .inl x] [.inl x, v0, v1] h Q := wp_step dX9_burns_89 (fun _ => rfl)
theorem s123_90  : wp 123 90 [l0, l1] [p2, p1, p0] h Q ↔ wp 120 0 [p0, p1, p2, .inr 0] [] h (kont 123 93 [l0, l1] [] Q) := w_callS (y2 := 120) (kd := 0) (vs := [p0, p1, p2]) (st := []) dX9_burns_90 (by decide +kernel) (by decide) rfl (by decide +kernel) (Nat.le_of_ble_eq_true rfl) (by simp)
theorem s123_93 (h0 : a ≠ 0) : wp 123 93 [.inr a, l1] [] h Q ↔ wp 123 94 [.inr a, l1] [.inr a] h Q := wp_step dX9_burns_93 (fun _ => if_neg h0)
theorem s123_94  : wp 123 94 [l0, l1] [v0] h Q ↔ wp 123 96 [l0, l1] [.inl 10, v0] h Q := w_const2 dX9_burns_94 k_10 k8_10
theorem s123_96  : wp 123 96 [l0, l1] [v0, v1] h Q ↔ wp 123 97 [l0, l1] [.inl 0, v0, v1] h Q := w_const1 dX9_burns_96 k_0
theorem s123_97 (ha : tg a = 100) (h8 : 8 ≤ a) (h0 : 0 ≤ x) (h1 : x < ln S a) : wp 123 97 [l0, l1] [.inl z, .inl x, .inr a] (hp S D) Q ↔ wp 123 98 [l0, l1] [] (hp S (up D a x.toNat z)) Q := w_iast dX9_burns_97 ha h8 h0 h1
theorem s123_98  : wp 123 98 [l0, l1] [] h Q ↔ Q none h := w_retv dX9_burns_98 (by decide +kernel)
theorem s124_0 (h0 : a ≠ 0) : wp 124 0 [.inr a, l1, l2] [] h Q ↔ wp 124 1 [.inr a, l1, l2] [.inr a] h Q := wp_step dX9_isLit_0 (fun _ => if_neg h0)
theorem s124_1  : wp 124 1 [l0, l1, l2] [v0] h Q ↔ wp 124 3 [l0, l1, l2] [.inl 7, v0] h Q := w_const2 dX9_isLit_1 k_7 k8_7
theorem s124_3 (ha : tg a = 100) (h0 : 0 ≤ x) (h1 : x < ln S a) : wp 124 3 [l0, l1, l2] [.inl x, .inr a] (hp S D) Q ↔ wp 124 4 [l0, l1, l2] [.inl (rd S D a x.toNat)] (hp S D) Q := w_iald dX9_isLit_3 ha h0 h1
theorem s124_4  : wp 124 4 [l0, l1, l2] [.inl x] h Q ↔ wp 124 5 [l0, .inl x, l2] [] h Q := wp_step dX9_isLit_4 (fun _ => rfl)
theorem s124_5 (h0 : a ≠ 0) : wp 124 5 [.inr a, l1, l2] [] h Q ↔ wp 124 6 [.inr a, l1, l2] [.inr a] h Q := wp_step dX9_isLit_5 (fun _ => if_neg h0)
theorem s124_6  : wp 124 6 [l0, .inl x, l2] [v0] h Q ↔ wp 124 7 [l0, .inl x, l2] [.inl x, v0] h Q := wp_step dX9_isLit_6 (fun _ => rfl)
theorem s124_7  : wp 124 7 [l0, l1, l2] [v0, v1] h Q ↔ wp 124 8 [l0, l1, l2] [.inl 0, v0, v1] h Q := w_const1 dX9_isLit_7 k_0
theorem s124_8  : wp 124 8 [l0, l1, l2] [p2, p1, p0] h Q ↔ wp 117 0 [p0, p1, p2] [] h (kont 124 11 [l0, l1, l2] [] Q) := w_callS (y2 := 117) (kd := 0) (vs := [p0, p1, p2]) (st := []) dX9_isLit_8 (by decide +kernel) (by decide) rfl (by decide +kernel) (Nat.le_of_ble_eq_true rfl) (by simp)
theorem s124_11  : wp 124 11 [l0, l1, l2] [.inl x] h Q ↔ if x = 0 then wp 124 14 [l0, l1, l2] [] h Q else wp 124 43 [l0, l1, l2] [] h Q := w_ne0 dX9_isLit_11 (by decide)
theorem s124_14 (h0 : a ≠ 0) : wp 124 14 [.inr a, l1, l2] [] h Q ↔ wp 124 15 [.inr a, l1, l2] [.inr a] h Q := wp_step dX9_isLit_14 (fun _ => if_neg h0)
theorem s124_15  : wp 124 15 [l0, l1, l2] [p0] h Q ↔ wp 119 0 [p0, .inr 0] [] h (kont 124 18 [l0, l1, l2] [] Q) := w_callS (y2 := 119) (kd := 0) (vs := [p0]) (st := []) dX9_isLit_15 (by decide +kernel) (by decide) rfl (by decide +kernel) (Nat.le_of_ble_eq_true rfl) (by simp)
theorem s124_18  : wp 124 18 [l0, l1, l2] [.inl x] h Q ↔ wp 124 19 [l0, l1, .inl x] [] h Q := wp_step dX9_isLit_18 (fun _ => rfl)
theorem s124_19  : wp 124 19 [l0, l1, .inl x] [] h Q ↔ wp 124 20 [l0, l1, .inl x] [.inl x] h Q := wp_step dX9_isLit_19 (fun _ => rfl)
theorem s124_20  : wp 124 20 [l0, l1, l2] [v0] h Q ↔ wp 124 22 [l0, l1, l2] [.inl (-5), v0] h Q := w_const2 dX9_isLit_20 k_m5 k8_m5
theorem s124_22  : wp 124 22 [l0, l1, l2] [.inl z, .inl x] h Q ↔ if x = z then wp 124 41 [l0, l1, l2] [] h Q else wp 124 25 [l0, l1, l2] [] h Q := w_ceq dX9_isLit_22 (by decide)
theorem s124_25  : wp 124 25 [l0, l1, .inl x] [] h Q ↔ wp 124 26 [l0, l1, .inl x] [.inl x] h Q := wp_step dX9_isLit_25 (fun _ => rfl)
theorem s124_26  : wp 124 26 [l0, .inl x, l2] [v0] h Q ↔ wp 124 27 [l0, .inl x, l2] [.inl x, v0] h Q := wp_step dX9_isLit_26 (fun _ => rfl)
theorem s124_27  : wp 124 27 [l0, l1, l2] [.inl z, .inl x] h Q ↔ if x = z then wp 124 41 [l0, l1, l2] [] h Q else wp 124 30 [l0, l1, l2] [] h Q := w_ceq dX9_isLit_27 (by decide)
theorem s124_30 (h0 : a ≠ 0) : wp 124 30 [.inr a, l1, l2] [] h Q ↔ wp 124 31 [.inr a, l1, l2] [.inr a] h Q := wp_step dX9_isLit_30 (fun _ => if_neg h0)
theorem s124_31  : wp 124 31 [l0, l1, .inl x] [v0] h Q ↔ wp 124 32 [l0, l1, .inl x] [.inl x, v0] h Q := wp_step dX9_isLit_31 (fun _ => rfl)
theorem s124_32  : wp 124 32 [l0, l1, l2] [p1, p0] h Q ↔ wp 121 0 [p0, p1] [] h (kont 124 35 [l0, l1, l2] [] Q) := w_callS (y2 := 121) (kd := 0) (vs := [p0, p1]) (st := []) dX9_isLit_32 (by decide +kernel) (by decide) rfl (by decide +kernel) (Nat.le_of_ble_eq_true rfl) (by simp)
theorem s124_35 (h0 : a ≠ 0) : wp 124 35 [.inr a, l1, l2] [] h Q ↔ wp 124 36 [.inr a, l1, l2] [.inr a] h Q := wp_step dX9_isLit_35 (fun _ => if_neg h0)
theorem s124_36  : wp 124 36 [l0, l1, l2] [v0] h Q ↔ wp 124 37 [l0, l1, l2] [.inl 2, v0] h Q := w_const1 dX9_isLit_36 k_2
theorem s124_37  : wp 124 37 [l0, l1, .inl x] [v0, v1] h Q ↔ wp 124 38 [l0, l1, .inl x] [.inl x, v0, v1] h Q := wp_step dX9_isLit_37 (fun _ => rfl)
theorem s124_38  : wp 124 38 [l0, l1, l2] [p2, p1, p0] h Q ↔ wp 120 0 [p0, p1, p2, .inr 0] [] h (kont 124 41 [l0, l1, l2] [] Q) := w_callS (y2 := 120) (kd := 0) (vs := [p0, p1, p2]) (st := []) dX9_isLit_38 (by decide +kernel) (by decide) rfl (by decide +kernel) (Nat.le_of_ble_eq_true rfl) (by simp)
theorem s124_41  : wp 124 41 [l0, l1, l2] [] h Q ↔ wp 124 42 [l0, l1, l2] [.inl 0] h Q := w_const1 dX9_isLit_41 k_0
theorem s124_42 (h0 : x = 0 ∨ x = 1) : wp 124 42 [l0, l1, l2] [.inl x] h Q ↔ Q (some (.inl x)) h := w_reti dX9_isLit_42 (e_rz (by decide +kernel) h0)
theorem s124_43 (h0 : a ≠ 0) : wp 124 43 [.inr a, l1, l2] [] h Q ↔ wp 124 44 [.inr a, l1, l2] [.inr a] h Q := wp_step dX9_isLit_43 (fun _ => if_neg h0)
theorem s124_44  : wp 124 44 [l0, l1, l2] [v0] h Q ↔ wp 124 46 [l0, l1, l2] [.inl 10, v0] h Q := w_const2 dX9_isLit_44 k_10 k8_10
theorem s124_46 (ha : tg a = 100) (h0 : 0 ≤ x) (h1 : x < ln S a) : wp 124 46 [l0, l1, l2] [.inl x, .inr a] (hp S D) Q ↔ wp 124 47 [l0, l1, l2] [.inl (rd S D a x.toNat)] (hp S D) Q := w_iald dX9_isLit_46 ha h0 h1
theorem s124_47  : wp 124 47 [l0, l1, l2] [.inl x] h Q ↔ if x = 0 then wp 124 50 [l0, l1, l2] [] h Q else wp 124 93 [l0, l1, l2] [] h Q := w_ne0 dX9_isLit_47 (by decide)
theorem s124_50 (h0 : a ≠ 0) : wp 124 50 [.inr a, l1, l2] [] h Q ↔ wp 124 51 [.inr a, l1, l2] [.inr a] h Q := wp_step dX9_isLit_50 (fun _ => if_neg h0)
theorem s124_51  : wp 124 51 [l0, .inl x, l2] [v0] h Q ↔ wp 124 52 [l0, .inl x, l2] [.inl x, v0] h Q := wp_step dX9_isLit_51 (fun _ => rfl)
theorem s124_52  : wp 124 52 [l0, l1, l2] [v0, v1] h Q ↔ wp 124 53 [l0, l1, l2] [.inl 2, v0, v1] h Q := w_const1 dX9_isLit_52 k_2
theorem s124_53 (h0 : a ≠ 0) : wp 124 53 [.inr a, l1, l2] [v0, v1, v2] h Q ↔ wp 124 54 [.inr a, l1, l2] [.inr a, v0, v1, v2] h Q := wp_step dX9_isLit_53 (fun _ => if_neg h0)
theorem s124_54  : wp 124 54 [l0, .inl x, l2] [v0, v1, v2, v3] h Q ↔ wp 124 55 [l0, .inl x, l2] [.inl x, v0, v1, v2, v3] h Q := wp_step dX9_isLit_54 (fun _ => rfl)
theorem s124_55  : wp 124 55 [l0, l1, l2] [v0, v1, v2, v3, v4] h Q ↔ wp 124 56 [l0, l1, l2] [.inl 2, v0, v1, v2, v3, v4] h Q := w_const1 dX9_isLit_55 k_2
theorem s124_56  : wp 124 56 [l0, l1, l2] [p2, p1, p0, v0, v1, v2] h Q ↔ wp 106 0 [p0, p1, p2] [] h (kont 124 59 [l0, l1, l2] [v0, v1, v2] Q) := w_callS (y2 := 106) (kd := 0) (vs := [p0, p1, p2]) (st := [v0, v1, v2]) dX9_isLit_56 (by decide +kernel) (by decide) rfl (by decide +kernel) (Nat.le_of_ble_eq_true rfl) (by simp)
theorem s124_59 (h0 : a ≠ 0) : wp 124 59 [.inr a, l1, l2] [v0, v1, v2, v3] h Q ↔ wp 124 60 [.inr a, l1, l2] [.inr a, v0, v1, v2, v3] h Q := wp_step dX9_isLit_59 (fun _ => if_neg h0)
theorem s124_60  : wp 124 60 [l0, .inl x, l2] [v0, v1, v2, v3, v4] h Q ↔ wp 124 61 [l0, .inl x, l2] [.inl x, v0, v1, v2, v3, v4] h Q := wp_step dX9_isLit_60 (fun _ => rfl)
theorem s124_61  : wp 124 61 [l0, l1, l2] [v0, v1, v2, v3, v4, v5] h Q ↔ wp 124 62 [l0, l1, l2] [.inl 0, v0, v1, v2, v3, v4, v5] h Q := w_const1 dX9_isLit_61 k_0
theorem s124_62  : wp 124 62 [l0, l1, l2] [p2, p1, p0, v0, v1, v2, v3] h Q ↔ wp 106 0 [p0, p1, p2] [] h (kont 124 65 [l0, l1, l2] [v0, v1, v2, v3] Q) := w_callS (y2 := 106) (kd := 0) (vs := [p0, p1, p2]) (st := [v0, v1, v2, v3]) dX9_isLit_62 (by decide +kernel) (by decide) rfl (by decide +kernel) (Nat.le_of_ble_eq_true rfl) (by simp)
theorem s124_65  : wp 124 65 [l0, l1, l2] [v0, v1, v2, v3, v4] h Q ↔ wp 124 67 [l0, l1, l2] [.inl 10, v0, v1, v2, v3, v4] h Q := w_const2 dX9_isLit_65 k_10 k8_10
theorem s124_67  : wp 124 67 [l0, l1, l2] [v0, v1, v2, v3, v4, v5] h Q ↔ wp 124 69 [l0, l1, l2] [.inl 15, v0, v1, v2, v3, v4, v5] h Q := w_const2 dX9_isLit_67 k_15 k8_15
theorem s124_69  : wp 124 69 [l0, l1, l2] [v0, v1, v2, v3, v4, v5, v6] h Q ↔ wp 124 70 [l0, l1, l2] [.inl 5, v0, v1, v2, v3, v4, v5, v6] h Q := w_const1 dX9_isLit_69 k_5
theorem s124_70  : wp 124 70 [l0, l1, l2] [p3, p2, p1, p0, v0, v1, v2, v3] h Q ↔ wp 111 0 [p0, p1, p2, p3] [] h (kont 124 73 [l0, l1, l2] [v0, v1, v2, v3] Q) := w_callS (y2 := 111) (kd := 0) (vs := [p0, p1, p2, p3]) (st := [v0, v1, v2, v3]) dX9_isLit_70 (by decide +kernel) (by decide) rfl (by decide +kernel) (Nat.le_of_ble_eq_true rfl) (by simp)
theorem s124_73  : wp 124 73 [l0, l1, l2] [.inl z, .inl x, v0, v1, v2] h Q ↔ wp 124 74 [l0, l1, l2] [.inl (w32 (x + z)), v0, v1, v2] h Q := wp_step dX9_isLit_73 (fun _ => rfl)
theorem s124_74  : wp 124 74 [l0, l1, l2] [p3, p2, p1, p0] h Q ↔ wp 107 0 [p0, p1, p2, p3] [] h (kont 124 77 [l0, l1, l2] [] Q) := w_callS (y2 := 107) (kd := 0) (vs := [p0, p1, p2, p3]) (st := []) dX9_isLit_74 (by decide +kernel) (by decide) rfl (by decide +kernel) (Nat.le_of_ble_eq_true rfl) (by simp)
theorem s124_77 (h0 : a ≠ 0) : wp 124 77 [.inr a, l1, l2] [] h Q ↔ wp 124 78 [.inr a, l1, l2] [.inr a] h Q := wp_step dX9_isLit_77 (fun _ => if_neg h0)
theorem s124_78  : wp 124 78 [l0, .inl x, l2] [v0] h Q ↔ wp 124 79 [l0, .inl x, l2] [.inl x, v0] h Q := wp_step dX9_isLit_78 (fun _ => rfl)
theorem s124_79  : wp 124 79 [l0, l1, l2] [p1, p0] h Q ↔ wp 114 0 [p0, p1] [] h (kont 124 82 [l0, l1, l2] [] Q) := w_callS (y2 := 114) (kd := 0) (vs := [p0, p1]) (st := []) dX9_isLit_79 (by decide +kernel) (by decide) rfl (by decide +kernel) (Nat.le_of_ble_eq_true rfl) (by simp)
theorem s124_82  : wp 124 82 [l0, l1, l2] [.inl x] h Q ↔ if x = 0 then wp 124 93 [l0, l1, l2] [] h Q else wp 124 85 [l0, l1, l2] [] h Q := w_eq0 dX9_isLit_82 (by decide)
theorem s124_85 (h0 : a ≠ 0) : wp 124 85 [.inr a, l1, l2] [] h Q ↔ wp 124 86 [.inr a, l1, l2] [.inr a] h Q := wp_step dX9_isLit_85 (fun _ => if_neg h0)
theorem s124_86  : wp 124 86 [l0, l1, l2] [v0] h Q ↔ wp 124 87 [l0, l1, l2] [.inl 0, v0] h Q := w_const1 dX9_isLit_86 k_0
theorem s124_87  : wp 124 87 [l0, .inl x, l2] [v0, v1] h Q ↔ wp 124 88 [l0, .inl x, l2] [.inl x, v0, v1] h Q := wp_step dX9_isLit_87 (fun _ => rfl)
theorem s124_88  : wp 124 88 [l0, l1, l2] [p2, p1, p0] h Q ↔ wp 120 0 [p0, p1, p2, .inr 0] [] h (kont 124 91 [l0, l1, l2] [] Q) := w_callS (y2 := 120) (kd := 0) (vs := [p0, p1, p2]) (st := []) dX9_isLit_88 (by decide +kernel) (by decide) rfl (by decide +kernel) (Nat.le_of_ble_eq_true rfl) (by simp)
theorem s124_91  : wp 124 91 [l0, l1, l2] [] h Q ↔ wp 124 92 [l0, l1, l2] [.inl 0] h Q := w_const1 dX9_isLit_91 k_0
theorem s124_92 (h0 : x = 0 ∨ x = 1) : wp 124 92 [l0, l1, l2] [.inl x] h Q ↔ Q (some (.inl x)) h := w_reti dX9_isLit_92 (e_rz (by decide +kernel) h0)
theorem s124_93 (h0 : a ≠ 0) : wp 124 93 [.inr a, l1, l2] [] h Q ↔ wp 124 94 [.inr a, l1, l2] [.inr a] h Q := wp_step dX9_isLit_93 (fun _ => if_neg h0)
theorem s124_94  : wp 124 94 [l0, .inl x, l2] [v0] h Q ↔ wp 124 95 [l0, .inl x, l2] [.inl x, v0] h Q := wp_step dX9_isLit_94 (fun _ => rfl)
theorem s124_95  : wp 124 95 [l0, l1, l2] [p1, p0] h Q ↔ wp 123 0 [p0, p1] [] h (kont 124 98 [l0, l1, l2] [] Q) := w_callS (y2 := 123) (kd := 0) (vs := [p0, p1]) (st := []) dX9_isLit_95 (by decide +kernel) (by decide) rfl (by decide +kernel) (Nat.le_of_ble_eq_true rfl) (by simp)
theorem s124_98  : wp 124 98 [l0, l1, l2] [] h Q ↔ wp 124 99 [l0, l1, l2] [.inl 1] h Q := w_const1 dX9_isLit_98 k_1
theorem s124_99 (h0 : x = 0 ∨ x = 1) : wp 124 99 [l0, l1, l2] [.inl x] h Q ↔ Q (some (.inl x)) h := w_reti dX9_isLit_99 (e_rz (by decide +kernel) h0)
theorem s125_0 (h0 : a ≠ 0) : wp 125 0 [.inr a, l1] [] h Q ↔ wp 125 1 [.inr a, l1] [.inr a] h Q := wp_step dX9_days_0 (fun _ => if_neg h0)
theorem s125_1  : wp 125 1 [l0, l1] [v0] h Q ↔ wp 125 3 [l0, l1] [.inl 10, v0] h Q := w_const2 dX9_days_1 k_10 k8_10
theorem s125_3  : wp 125 3 [l0, l1] [v0, v1] h Q ↔ wp 125 4 [l0, l1] [.inl 0, v0, v1] h Q := w_const1 dX9_days_3 k_0
theorem s125_4 (ha : tg a = 100) (h8 : 8 ≤ a) (h0 : 0 ≤ x) (h1 : x < ln S a) : wp 125 4 [l0, l1] [.inl z, .inl x, .inr a] (hp S D) Q ↔ wp 125 5 [l0, l1] [] (hp S (up D a x.toNat z)) Q := w_iast dX9_days_4 ha h8 h0 h1
theorem s125_5 (h0 : a ≠ 0) : wp 125 5 [.inr a, l1] [] h Q ↔ wp 125 6 [.inr a, l1] [.inr a] h Q := wp_step dX9_days_5 (fun _ => if_neg h0)
theorem s125_6  : wp 125 6 [l0, l1] [v0] h Q ↔ wp 125 7 [l0, l1] [.inl 1, v0] h Q := w_const1 dX9_days_6 k_1
theorem s125_7  : wp 125 7 [l0, l1] [p1, p0] h Q ↔ wp 118 0 [p0, p1, .inr 0, .inr 0] [] h (kont 125 10 [l0, l1] [] Q) := w_callS (y2 := 118) (kd := 0) (vs := [p0, p1]) (st := []) dX9_days_7 (by decide +kernel) (by decide) rfl (by decide +kernel) (Nat.le_of_ble_eq_true rfl) (by simp)
theorem s125_10  : wp 125 10 [l0, l1] [.inl x] h Q ↔ wp 125 11 [l0, .inl x] [] h Q := wp_step dX9_days_10 (fun _ => rfl)
theorem s125_11 (h0 : a ≠ 0) : wp 125 11 [.inr a, l1] [] h Q ↔ wp 125 12 [.inr a, l1] [.inr a] h Q := wp_step dX9_days_11 (fun _ => if_neg h0)
theorem s125_12 (h0 : a ≠ 0) : wp 125 12 [.inr a, l1] [v0] h Q ↔ wp 125 13 [.inr a, l1] [.inr a, v0] h Q := wp_step dX9_days_12 (fun _ => if_neg h0)
theorem s125_13  : wp 125 13 [l0, l1] [v0, v1] h Q ↔ wp 125 15 [l0, l1] [.inl 7, v0, v1] h Q := w_const2 dX9_days_13 k_7 k8_7
theorem s125_15 (ha : tg a = 100) (h0 : 0 ≤ x) (h1 : x < ln S a) : wp 125 15 [l0, l1] [.inl x, .inr a, v0] (hp S D) Q ↔ wp 125 16 [l0, l1] [.inl (rd S D a x.toNat), v0] (hp S D) Q := w_iald dX9_days_15 ha h0 h1
theorem s125_16  : wp 125 16 [l0, l1] [v0, v1] h Q ↔ wp 125 17 [l0, l1] [.inl 1, v0, v1] h Q := w_const1 dX9_days_16 k_1
theorem s125_17  : wp 125 17 [l0, l1] [p2, p1, p0] h Q ↔ wp 117 0 [p0, p1, p2] [] h (kont 125 20 [l0, l1] [] Q) := w_callS (y2 := 117) (kd := 0) (vs := [p0, p1, p2]) (st := []) dX9_days_17 (by decide +kernel) (by decide) rfl (by decide +kernel) (Nat.le_of_ble_eq_true rfl) (by simp)
theorem s125_20  : wp 125 20 [l0, l1] [.inl x] h Q ↔ if x = 0 then wp 125 23 [l0, l1] [] h Q else wp 125 40 [l0, l1] [] h Q := w_ne0 dX9_days_20 (by decide)
theorem s125_23  : wp 125 23 [l0, .inl x] [] h Q ↔ wp 125 24 [l0, .inl x] [.inl x] h Q := wp_step dX9_days_23 (fun _ => rfl)
theorem s125_24  : wp 125 24 [l0, l1] [v0] h Q ↔ wp 125 26 [l0, l1] [.inl (-5), v0] h Q := w_const2 dX9_days_24 k_m5 k8_m5
theorem s125_26  : wp 125 26 [l0, l1] [.inl z, .inl x] h Q ↔ if x = z then wp 125 40 [l0, l1] [] h Q else wp 125 29 [l0, l1] [] h Q := w_ceq dX9_days_26 (by decide)
theorem s125_29 (h0 : a ≠ 0) : wp 125 29 [.inr a, l1] [] h Q ↔ wp 125 30 [.inr a, l1] [.inr a] h Q := wp_step dX9_days_29 (fun _ => if_neg h0)
theorem s125_30  : wp 125 30 [l0, .inl x] [v0] h Q ↔ wp 125 31 [l0, .inl x] [.inl x, v0] h Q := wp_step dX9_days_30 (fun _ => rfl)
theorem s125_31  : wp 125 31 [l0, l1] [p1, p0] h Q ↔ wp 121 0 [p0, p1] [] h (kont 125 34 [l0, l1] [] Q) := w_callS (y2 := 121) (kd := 0) (vs := [p0, p1]) (st := []) dX9_days_31 (by decide +kernel) (by decide) rfl (by decide +kernel) (Nat.le_of_ble_eq_true rfl) (by simp)
theorem s125_34 (h0 : a ≠ 0) : wp 125 34 [.inr a, l1] [] h Q ↔ wp 125 35 [.inr a, l1] [.inr a] h Q := wp_step dX9_days_34 (fun _ => if_neg h0)
theorem s125_35  : wp 125 35 [l0, l1] [v0] h Q ↔ wp 125 36 [l0, l1] [.inl 3, v0] h Q := w_const1 dX9_days_35 k_3
theorem s125_36  : wp 125 36 [l0, .inl x] [v0, v1] h Q ↔ wp 125 37 [l0, .inl x] [.inl x, v0, v1] h Q := wp_step dX9_days_36 (fun _ => rfl)
theorem s125_37  : wp 125 37 [l0, l1] [p2, p1, p0] h Q ↔ wp 120 0 [p0, p1, p2, .inr 0] [] h (kont 125 40 [l0, l1] [] Q) := w_callS (y2 := 120) (kd := 0) (vs := [p0, p1, p2]) (st := []) dX9_days_37 (by decide +kernel) (by decide) rfl (by decide +kernel) (Nat.le_of_ble_eq_true rfl) (by simp)
theorem s125_40  : wp 125 40 [l0, l1] [] h Q ↔ Q none h := w_retv dX9_days_40 (by decide +kernel)
theorem s126_0 (h0 : a ≠ 0) : wp 126 0 [.inr a] [] h Q ↔ wp 126 1 [.inr a] [.inr a] h Q := wp_step dX9_lowest_0 (fun _ => if_neg h0)
theorem s126_1  : wp 126 1 [l0] [v0] h Q ↔ wp 126 3 [l0] [.inl 41, v0] h Q := w_const2 dX9_lowest_1 k_41 k8_41
theorem s126_3 (ha : tg a = 100) (h0 : 0 ≤ x) (h1 : x < ln S a) : wp 126 3 [l0] [.inl x, .inr a] (hp S D) Q ↔ wp 126 4 [l0] [.inl (rd S D a x.toNat)] (hp S D) Q := w_iald dX9_lowest_3 ha h0 h1
theorem s126_4  : wp 126 4 [l0] [.inl x] h Q ↔ if 0 < x then wp 126 7 [l0] [] h Q else wp 126 11 [l0] [] h Q := w_le0 dX9_lowest_4 (by decide)
theorem s126_7  : wp 126 7 [l0] [] h Q ↔ wp 126 8 [l0] [.inl 0] h Q := w_const1 dX9_lowest_7 k_0
theorem s126_8  : wp 126 8 [l0] [v0] h Q ↔ wp 126 35 [l0] [v0] h Q := w_goto dX9_lowest_8 (by decide)
theorem s126_11 (h0 : a ≠ 0) : wp 126 11 [.inr a] [] h Q ↔ wp 126 12 [.inr a] [.inr a] h Q := wp_step dX9_lowest_11 (fun _ => if_neg h0)
theorem s126_12  : wp 126 12 [l0] [v0] h Q ↔ wp 126 14 [l0] [.inl 42, v0] h Q := w_const2 dX9_lowest_12 k_42 k8_42
theorem s126_14 (ha : tg a = 100) (h0 : 0 ≤ x) (h1 : x < ln S a) : wp 126 14 [l0] [.inl x, .inr a] (hp S D) Q ↔ wp 126 15 [l0] [.inl (rd S D a x.toNat)] (hp S D) Q := w_iald dX9_lowest_14 ha h0 h1
theorem s126_15  : wp 126 15 [l0] [.inl x] h Q ↔ if 0 < x then wp 126 18 [l0] [] h Q else wp 126 22 [l0] [] h Q := w_le0 dX9_lowest_15 (by decide)
theorem s126_18  : wp 126 18 [l0] [] h Q ↔ wp 126 19 [l0] [.inl 1] h Q := w_const1 dX9_lowest_18 k_1
theorem s126_19  : wp 126 19 [l0] [v0] h Q ↔ wp 126 35 [l0] [v0] h Q := w_goto dX9_lowest_19 (by decide)
theorem s126_22 (h0 : a ≠ 0) : wp 126 22 [.inr a] [] h Q ↔ wp 126 23 [.inr a] [.inr a] h Q := wp_step dX9_lowest_22 (fun _ => if_neg h0)
theorem s126_23  : wp 126 23 [l0] [v0] h Q ↔ wp 126 25 [l0] [.inl 43, v0] h Q := w_const2 dX9_lowest_23 k_43 k8_43
theorem s126_25 (ha : tg a = 100) (h0 : 0 ≤ x) (h1 : x < ln S a) : wp 126 25 [l0] [.inl x, .inr a] (hp S D) Q ↔ wp 126 26 [l0] [.inl (rd S D a x.toNat)] (hp S D) Q := w_iald dX9_lowest_25 ha h0 h1
theorem s126_26  : wp 126 26 [l0] [.inl x] h Q ↔ if 0 < x then wp 126 29 [l0] [] h Q else wp 126 33 [l0] [] h Q := w_le0 dX9_lowest_26 (by decide)
theorem s126_29  : wp 126 29 [l0] [] h Q ↔ wp 126 30 [l0] [.inl 2] h Q := w_const1 dX9_lowest_29 k_2
theorem s126_30  : wp 126 30 [l0] [v0] h Q ↔ wp 126 35 [l0] [v0] h Q := w_goto dX9_lowest_30 (by decide)
theorem s126_33  : wp 126 33 [l0] [] h Q ↔ wp 126 35 [l0] [.inl (-5)] h Q := w_const2 dX9_lowest_33 k_m5 k8_m5
theorem s126_35  : wp 126 35 [l0] [.inl x] h Q ↔ Q (some (.inl x)) h := w_reti dX9_lowest_35 (e_ri (by decide +kernel))
theorem s127_0 (h0 : a ≠ 0) : wp 127 0 [.inr a, l1, l2, l3, l4, l5, l6] [] h Q ↔ wp 127 1 [.inr a, l1, l2, l3, l4, l5, l6] [.inr a] h Q := wp_step dX9_lands_0 (fun _ => if_neg h0)
theorem s127_1  : wp 127 1 [l0, .inl x, l2, l3, l4, l5, l6] [v0] h Q ↔ wp 127 2 [l0, .inl x, l2, l3, l4, l5, l6] [.inl x, v0] h Q := wp_step dX9_lands_1 (fun _ => rfl)
theorem s127_2  : wp 127 2 [l0, l1, l2, l3, l4, l5, l6] [v0, v1] h Q ↔ wp 127 3 [l0, l1, l2, l3, l4, l5, l6] [.inl 1, v0, v1] h Q := w_const1 dX9_lands_2 k_1
theorem s127_3  : wp 127 3 [l0, l1, l2, l3, l4, l5, l6] [.inl z, .inl x, v0] h Q ↔ wp 127 4 [l0, l1, l2, l3, l4, l5, l6] [.inl (w32 (x + z)), v0] h Q := wp_step dX9_lands_3 (fun _ => rfl)
theorem s127_4 (ha : tg a = 100) (h0 : 0 ≤ x) (h1 : x < ln S a) : wp 127 4 [l0, l1, l2, l3, l4, l5, l6] [.inl x, .inr a] (hp S D) Q ↔ wp 127 5 [l0, l1, l2, l3, l4, l5, l6] [.inl (rd S D a x.toNat)] (hp S D) Q := w_iald dX9_lands_4 ha h0 h1
theorem s127_5  : wp 127 5 [l0, l1, l2, l3, l4, l5, l6] [.inl x] h Q ↔ wp 127 6 [l0, l1, .inl x, l3, l4, l5, l6] [] h Q := wp_step dX9_lands_5 (fun _ => rfl)
theorem s127_6 (h0 : a ≠ 0) : wp 127 6 [.inr a, l1, l2, l3, l4, l5, l6] [] h Q ↔ wp 127 7 [.inr a, l1, l2, l3, l4, l5, l6] [.inr a] h Q := wp_step dX9_lands_6 (fun _ => if_neg h0)
theorem s127_7  : wp 127 7 [l0, l1, l2, l3, l4, l5, l6] [v0] h Q ↔ wp 127 9 [l0, l1, l2, l3, l4, l5, l6] [.inl 41, v0] h Q := w_const2 dX9_lands_7 k_41 k8_41
theorem s127_9  : wp 127 9 [l0, l1, .inl x, l3, l4, l5, l6] [v0, v1] h Q ↔ wp 127 10 [l0, l1, .inl x, l3, l4, l5, l6] [.inl x, v0, v1] h Q := wp_step dX9_lands_9 (fun _ => rfl)
theorem s127_10  : wp 127 10 [l0, l1, l2, l3, l4, l5, l6] [.inl z, .inl x, v0] h Q ↔ wp 127 11 [l0, l1, l2, l3, l4, l5, l6] [.inl (w32 (x + z)), v0] h Q := wp_step dX9_lands_10 (fun _ => rfl)
theorem s127_11 (ha : tg a = 100) (h0 : 0 ≤ x) (h1 : x < ln S a) : wp 127 11 [l0, l1, l2, l3, l4, l5, l6] [.inl x, .inr a] (hp S D) Q ↔ wp 127 12 [l0, l1, l2, l3, l4, l5, l6] [.inl (rd S D a x.toNat)] (hp S D) Q := w_iald dX9_lands_11 ha h0 h1
theorem s127_12 (h0 : a ≠ 0) : wp 127 12 [.inr a, l1, l2, l3, l4, l5, l6] [v0] h Q ↔ wp 127 13 [.inr a, l1, l2, l3, l4, l5, l6] [.inr a, v0] h Q := wp_step dX9_lands_12 (fun _ => if_neg h0)
theorem s127_13  : wp 127 13 [l0, .inl x, l2, l3, l4, l5, l6] [v0, v1] h Q ↔ wp 127 14 [l0, .inl x, l2, l3, l4, l5, l6] [.inl x, v0, v1] h Q := wp_step dX9_lands_13 (fun _ => rfl)
theorem s127_14  : wp 127 14 [l0, l1, l2, l3, l4, l5, l6] [v0, v1, v2] h Q ↔ wp 127 15 [l0, l1, l2, l3, l4, l5, l6] [.inl 2, v0, v1, v2] h Q := w_const1 dX9_lands_14 k_2
theorem s127_15  : wp 127 15 [l0, l1, l2, l3, l4, l5, l6] [.inl z, .inl x, v0, v1] h Q ↔ wp 127 16 [l0, l1, l2, l3, l4, l5, l6] [.inl (w32 (x + z)), v0, v1] h Q := wp_step dX9_lands_15 (fun _ => rfl)
theorem s127_16 (ha : tg a = 100) (h0 : 0 ≤ x) (h1 : x < ln S a) : wp 127 16 [l0, l1, l2, l3, l4, l5, l6] [.inl x, .inr a, v0] (hp S D) Q ↔ wp 127 17 [l0, l1, l2, l3, l4, l5, l6] [.inl (rd S D a x.toNat), v0] (hp S D) Q := w_iald dX9_lands_16 ha h0 h1
theorem s127_17  : wp 127 17 [l0, l1, l2, l3, l4, l5, l6] [.inl z, .inl x] h Q ↔ wp 127 18 [l0, l1, l2, l3, l4, l5, l6] [.inl (w32 (x + z))] h Q := wp_step dX9_lands_17 (fun _ => rfl)
theorem s127_18  : wp 127 18 [l0, l1, l2, l3, l4, l5, l6] [.inl x] h Q ↔ wp 127 19 [l0, l1, l2, .inl x, l4, l5, l6] [] h Q := wp_step dX9_lands_18 (fun _ => rfl)
theorem s127_19 (h0 : a ≠ 0) : wp 127 19 [.inr a, l1, l2, l3, l4, l5, l6] [] h Q ↔ wp 127 20 [.inr a, l1, l2, l3, l4, l5, l6] [.inr a] h Q := wp_step dX9_lands_19 (fun _ => if_neg h0)
theorem s127_20  : wp 127 20 [l0, l1, l2, l3, l4, l5, l6] [v0] h Q ↔ wp 127 22 [l0, l1, l2, l3, l4, l5, l6] [.inl 41, v0] h Q := w_const2 dX9_lands_20 k_41 k8_41
theorem s127_22  : wp 127 22 [l0, l1, .inl x, l3, l4, l5, l6] [v0, v1] h Q ↔ wp 127 23 [l0, l1, .inl x, l3, l4, l5, l6] [.inl x, v0, v1] h Q := wp_step dX9_lands_22 (fun _ => rfl)
theorem s127_23  : wp 127 23 [l0, l1, l2, l3, l4, l5, l6] [.inl z, .inl x, v0] h Q ↔ wp 127 24 [l0, l1, l2, l3, l4, l5, l6] [.inl (w32 (x + z)), v0] h Q := wp_step dX9_lands_23 (fun _ => rfl)
theorem s127_24  : wp 127 24 [l0, l1, l2, .inl x, l4, l5, l6] [v0, v1] h Q ↔ wp 127 25 [l0, l1, l2, .inl x, l4, l5, l6] [.inl x, v0, v1] h Q := wp_step dX9_lands_24 (fun _ => rfl)
theorem s127_25  : wp 127 25 [l0, l1, l2, l3, l4, l5, l6] [v0, v1, v2] h Q ↔ wp 127 27 [l0, l1, l2, l3, l4, l5, l6] [.inl 99, v0, v1, v2] h Q := w_const2 dX9_lands_25 k_99 k8_99
theorem s127_27  : wp 127 27 [l0, l1, l2, l3, l4, l5, l6] [.inl z, .inl x, v0, v1] h Q ↔ if z < x then wp 127 30 [l0, l1, l2, l3, l4, l5, l6] [v0, v1] h Q else wp 127 35 [l0, l1, l2, l3, l4, l5, l6] [v0, v1] h Q := w_cle dX9_lands_27 (by decide)
theorem s127_30  : wp 127 30 [l0, l1, l2, l3, l4, l5, l6] [v0, v1] h Q ↔ wp 127 32 [l0, l1, l2, l3, l4, l5, l6] [.inl 99, v0, v1] h Q := w_const2 dX9_lands_30 k_99 k8_99
theorem s127_32  : wp 127 32 [l0, l1, l2, l3, l4, l5, l6] [v0, v1, v2] h Q ↔ wp 127 36 [l0, l1, l2, l3, l4, l5, l6] [v0, v1, v2] h Q := w_goto dX9_lands_32 (by decide)
theorem s127_35  : wp 127 35 [l0, l1, l2, .inl x, l4, l5, l6] [v0, v1] h Q ↔ wp 127 36 [l0, l1, l2, .inl x, l4, l5, l6] [.inl x, v0, v1] h Q := wp_step dX9_lands_35 (fun _ => rfl)
theorem s127_36 (ha : tg a = 100) (h8 : 8 ≤ a) (h0 : 0 ≤ x) (h1 : x < ln S a) : wp 127 36 [l0, l1, l2, l3, l4, l5, l6] [.inl z, .inl x, .inr a] (hp S D) Q ↔ wp 127 37 [l0, l1, l2, l3, l4, l5, l6] [] (hp S (up D a x.toNat z)) Q := w_iast dX9_lands_36 ha h8 h0 h1
theorem s127_37  : wp 127 37 [l0, l1, l2, l3, l4, l5, l6] [] h Q ↔ wp 127 38 [l0, l1, l2, l3, l4, l5, l6] [.inl 0] h Q := w_const1 dX9_lands_37 k_0
theorem s127_38  : wp 127 38 [l0, l1, l2, l3, l4, l5, l6] [.inl x] h Q ↔ wp 127 40 [l0, l1, l2, l3, .inl x, l5, l6] [] h Q := wp_step dX9_lands_38 (fun _ => rfl)
theorem s127_40  : wp 127 40 [l0, l1, l2, l3, .inl x, l5, l6] [] h Q ↔ wp 127 42 [l0, l1, l2, l3, .inl x, l5, l6] [.inl x] h Q := wp_step dX9_lands_40 (fun _ => rfl)
theorem s127_42  : wp 127 42 [l0, l1, l2, l3, l4, l5, l6] [v0] h Q ↔ wp 127 44 [l0, l1, l2, l3, l4, l5, l6] [.inl 6, v0] h Q := w_const2 dX9_lands_42 k_6 k8_6
theorem s127_44  : wp 127 44 [l0, l1, l2, l3, l4, l5, l6] [.inl z, .inl x] h Q ↔ if x < z then wp 127 47 [l0, l1, l2, l3, l4, l5, l6] [] h Q else wp 127 119 [l0, l1, l2, l3, l4, l5, l6] [] h Q := w_cge dX9_lands_44 (by decide)
theorem s127_47 (h0 : a ≠ 0) : wp 127 47 [.inr a, l1, l2, l3, l4, l5, l6] [] h Q ↔ wp 127 48 [.inr a, l1, l2, l3, l4, l5, l6] [.inr a] h Q := wp_step dX9_lands_47 (fun _ => if_neg h0)
theorem s127_48  : wp 127 48 [l0, l1, l2, l3, l4, l5, l6] [v0] h Q ↔ wp 127 50 [l0, l1, l2, l3, l4, l5, l6] [.inl 10, v0] h Q := w_const2 dX9_lands_48 k_10 k8_10
theorem s127_50 (ha : tg a = 100) (h0 : 0 ≤ x) (h1 : x < ln S a) : wp 127 50 [l0, l1, l2, l3, l4, l5, l6] [.inl x, .inr a] (hp S D) Q ↔ wp 127 51 [l0, l1, l2, l3, l4, l5, l6] [.inl (rd S D a x.toNat)] (hp S D) Q := w_iald dX9_lands_50 ha h0 h1
theorem s127_51  : wp 127 51 [l0, l1, l2, l3, l4, l5, l6] [v0] h Q ↔ wp 127 52 [l0, l1, l2, l3, l4, l5, l6] [.inl 1, v0] h Q := w_const1 dX9_lands_51 k_1
theorem s127_52  : wp 127 52 [l0, l1, l2, l3, l4, l5, l6] [.inl z, .inl x] h Q ↔ if x = z then wp 127 55 [l0, l1, l2, l3, l4, l5, l6] [] h Q else wp 127 68 [l0, l1, l2, l3, l4, l5, l6] [] h Q := w_cne dX9_lands_52 (by decide)
theorem s127_55  : wp 127 55 [l0, l1, l2, l3, .inl x, l5, l6] [] h Q ↔ wp 127 57 [l0, l1, l2, l3, .inl x, l5, l6] [.inl x] h Q := wp_step dX9_lands_55 (fun _ => rfl)
theorem s127_57 (h0 : a ≠ 0) : wp 127 57 [.inr a, l1, l2, l3, l4, l5, l6] [v0] h Q ↔ wp 127 58 [.inr a, l1, l2, l3, l4, l5, l6] [.inr a, v0] h Q := wp_step dX9_lands_57 (fun _ => if_neg h0)
theorem s127_58  : wp 127 58 [l0, l1, l2, l3, l4, l5, l6] [v0, v1] h Q ↔ wp 127 60 [l0, l1, l2, l3, l4, l5, l6] [.inl 7, v0, v1] h Q := w_const2 dX9_lands_58 k_7 k8_7
theorem s127_60 (ha : tg a = 100) (h0 : 0 ≤ x) (h1 : x < ln S a) : wp 127 60 [l0, l1, l2, l3, l4, l5, l6] [.inl x, .inr a, v0] (hp S D) Q ↔ wp 127 61 [l0, l1, l2, l3, l4, l5, l6] [.inl (rd S D a x.toNat), v0] (hp S D) Q := w_iald dX9_lands_60 ha h0 h1
theorem s127_61  : wp 127 61 [l0, l1, l2, l3, l4, l5, l6] [.inl z, .inl x] h Q ↔ if x = z then wp 127 64 [l0, l1, l2, l3, l4, l5, l6] [] h Q else wp 127 68 [l0, l1, l2, l3, l4, l5, l6] [] h Q := w_cne dX9_lands_61 (by decide)
theorem s127_64  : wp 127 64 [l0, l1, l2, l3, l4, l5, l6] [] h Q ↔ wp 127 65 [l0, l1, l2, l3, l4, l5, l6] [.inl 1] h Q := w_const1 dX9_lands_64 k_1
theorem s127_65  : wp 127 65 [l0, l1, l2, l3, l4, l5, l6] [v0] h Q ↔ wp 127 69 [l0, l1, l2, l3, l4, l5, l6] [v0] h Q := w_goto dX9_lands_65 (by decide)
theorem s127_68  : wp 127 68 [l0, l1, l2, l3, l4, l5, l6] [] h Q ↔ wp 127 69 [l0, l1, l2, l3, l4, l5, l6] [.inl 0] h Q := w_const1 dX9_lands_68 k_0
theorem s127_69  : wp 127 69 [l0, l1, l2, l3, l4, l5, l6] [.inl x] h Q ↔ wp 127 71 [l0, l1, l2, l3, l4, .inl x, l6] [] h Q := wp_step dX9_lands_69 (fun _ => rfl)
theorem s127_71 (h0 : a ≠ 0) : wp 127 71 [.inr a, l1, l2, l3, l4, l5, l6] [] h Q ↔ wp 127 72 [.inr a, l1, l2, l3, l4, l5, l6] [.inr a] h Q := wp_step dX9_lands_71 (fun _ => if_neg h0)
theorem s127_72  : wp 127 72 [l0, l1, l2, l3, .inl x, l5, l6] [v0] h Q ↔ wp 127 74 [l0, l1, l2, l3, .inl x, l5, l6] [.inl x, v0] h Q := wp_step dX9_lands_72 (fun _ => rfl)
theorem s127_74  : wp 127 74 [l0, l1, l2, l3, l4, l5, l6] [p1, p0] h Q ↔ wp 109 0 [p0, p1] [] h (kont 127 77 [l0, l1, l2, l3, l4, l5, l6] [] Q) := w_callS (y2 := 109) (kd := 0) (vs := [p0, p1]) (st := []) dX9_lands_74 (by decide +kernel) (by decide) rfl (by decide +kernel) (Nat.le_of_ble_eq_true rfl) (by simp)
theorem s127_77  : wp 127 77 [l0, l1, l2, l3, l4, l5, l6] [.inl x] h Q ↔ if x = 0 then wp 127 113 [l0, l1, l2, l3, l4, l5, l6] [] h Q else wp 127 80 [l0, l1, l2, l3, l4, l5, l6] [] h Q := w_eq0 dX9_lands_77 (by decide)
theorem s127_80  : wp 127 80 [l0, l1, l2, l3, l4, .inl x, l6] [] h Q ↔ wp 127 82 [l0, l1, l2, l3, l4, .inl x, l6] [.inl x] h Q := wp_step dX9_lands_80 (fun _ => rfl)
theorem s127_82  : wp 127 82 [l0, l1, l2, l3, l4, l5, l6] [.inl x] h Q ↔ if x = 0 then wp 127 85 [l0, l1, l2, l3, l4, l5, l6] [] h Q else wp 127 113 [l0, l1, l2, l3, l4, l5, l6] [] h Q := w_ne0 dX9_lands_82 (by decide)
theorem s127_85 (h0 : a ≠ 0) : wp 127 85 [.inr a, l1, l2, l3, l4, l5, l6] [] h Q ↔ wp 127 86 [.inr a, l1, l2, l3, l4, l5, l6] [.inr a] h Q := wp_step dX9_lands_85 (fun _ => if_neg h0)
theorem s127_86  : wp 127 86 [l0, l1, l2, l3, .inl x, l5, l6] [v0] h Q ↔ wp 127 88 [l0, l1, l2, l3, .inl x, l5, l6] [.inl x, v0] h Q := wp_step dX9_lands_86 (fun _ => rfl)
theorem s127_88 (h0 : a ≠ 0) : wp 127 88 [.inr a, l1, l2, l3, l4, l5, l6] [v0, v1] h Q ↔ wp 127 89 [.inr a, l1, l2, l3, l4, l5, l6] [.inr a, v0, v1] h Q := wp_step dX9_lands_88 (fun _ => if_neg h0)
theorem s127_89  : wp 127 89 [l0, l1, l2, l3, l4, l5, l6] [v0, v1, v2] h Q ↔ wp 127 91 [l0, l1, l2, l3, l4, l5, l6] [.inl 6, v0, v1, v2] h Q := w_const2 dX9_lands_89 k_6 k8_6
theorem s127_91 (ha : tg a = 100) (h0 : 0 ≤ x) (h1 : x < ln S a) : wp 127 91 [l0, l1, l2, l3, l4, l5, l6] [.inl x, .inr a, v0, v1] (hp S D) Q ↔ wp 127 92 [l0, l1, l2, l3, l4, l5, l6] [.inl (rd S D a x.toNat), v0, v1] (hp S D) Q := w_iald dX9_lands_91 ha h0 h1
theorem s127_92  : wp 127 92 [l0, l1, l2, l3, l4, l5, l6] [v0, v1, v2] h Q ↔ wp 127 93 [l0, l1, l2, l3, l4, l5, l6] [.inl 1, v0, v1, v2] h Q := w_const1 dX9_lands_92 k_1
theorem s127_93  : wp 127 93 [l0, l1, l2, l3, l4, l5, l6] [.inl z, .inl x, v0, v1] h Q ↔ if x = z then wp 127 96 [l0, l1, l2, l3, l4, l5, l6] [v0, v1] h Q else wp 127 100 [l0, l1, l2, l3, l4, l5, l6] [v0, v1] h Q := w_cne dX9_lands_93 (by decide)
theorem s127_96  : wp 127 96 [l0, l1, l2, l3, l4, l5, l6] [v0, v1] h Q ↔ wp 127 97 [l0, l1, l2, l3, l4, l5, l6] [.inl 1, v0, v1] h Q := w_const1 dX9_lands_96 k_1
theorem s127_97  : wp 127 97 [l0, l1, l2, l3, l4, l5, l6] [v0, v1, v2] h Q ↔ wp 127 101 [l0, l1, l2, l3, l4, l5, l6] [v0, v1, v2] h Q := w_goto dX9_lands_97 (by decide)
theorem s127_100  : wp 127 100 [l0, l1, l2, l3, l4, l5, l6] [v0, v1] h Q ↔ wp 127 101 [l0, l1, l2, l3, l4, l5, l6] [.inl 0, v0, v1] h Q := w_const1 dX9_lands_100 k_0
theorem s127_101  : wp 127 101 [l0, l1, l2, l3, l4, l5, l6] [p2, p1, p0] h Q ↔ wp 117 0 [p0, p1, p2] [] h (kont 127 104 [l0, l1, l2, l3, l4, l5, l6] [] Q) := w_callS (y2 := 117) (kd := 0) (vs := [p0, p1, p2]) (st := []) dX9_lands_101 (by decide +kernel) (by decide) rfl (by decide +kernel) (Nat.le_of_ble_eq_true rfl) (by simp)
theorem s127_104  : wp 127 104 [l0, l1, l2, l3, l4, l5, l6] [.inl x] h Q ↔ if x = 0 then wp 127 107 [l0, l1, l2, l3, l4, l5, l6] [] h Q else wp 127 113 [l0, l1, l2, l3, l4, l5, l6] [] h Q := w_ne0 dX9_lands_104 (by decide)
theorem s127_107 (h0 : a ≠ 0) : wp 127 107 [.inr a, l1, l2, l3, l4, l5, l6] [] h Q ↔ wp 127 108 [.inr a, l1, l2, l3, l4, l5, l6] [.inr a] h Q := wp_step dX9_lands_107 (fun _ => if_neg h0)
theorem s127_108  : wp 127 108 [l0, l1, l2, l3, .inl x, l5, l6] [v0] h Q ↔ wp 127 110 [l0, l1, l2, l3, .inl x, l5, l6] [.inl x, v0] h Q := wp_step dX9_lands_108 (fun _ => rfl)
theorem s127_110  : wp 127 110 [l0, l1, l2, l3, l4, l5, l6] [p1, p0] h Q ↔ wp 108 0 [p0, p1] [] h (kont 127 113 [l0, l1, l2, l3, l4, l5, l6] [] Q) := w_callS (y2 := 108) (kd := 0) (vs := [p0, p1]) (st := []) dX9_lands_110 (by decide +kernel) (by decide) rfl (by decide +kernel) (Nat.le_of_ble_eq_true rfl) (by simp)
theorem s127_113  : wp 127 113 [l0, l1, l2, l3, .inl x, l5, l6] [] h Q ↔ wp 127 116 [l0, l1, l2, l3, .inl (w32 (x + 1)), l5, l6] [] h Q := wp_step dX9_lands_113 (fun _ => rfl)
theorem s127_116  : wp 127 116 [l0, l1, l2, l3, l4, l5, l6] [] h Q ↔ wp 127 40 [l0, l1, l2, l3, l4, l5, l6] [] h Q := w_goto dX9_lands_116 (by decide)
theorem s127_119  : wp 127 119 [l0, l1, l2, l3, l4, l5, l6] [] h Q ↔ wp 127 120 [l0, l1, l2, l3, l4, l5, l6] [.inl 0] h Q := w_const1 dX9_lands_119 k_0
theorem s127_120  : wp 127 120 [l0, l1, l2, l3, l4, l5, l6] [.inl x] h Q ↔ wp 127 122 [l0, l1, l2, l3, .inl x, l5, l6] [] h Q := wp_step dX9_lands_120 (fun _ => rfl)
theorem s127_122  : wp 127 122 [l0, l1, l2, l3, l4, l5, l6] [] h Q ↔ wp 127 123 [l0, l1, l2, l3, l4, l5, l6] [.inl 0] h Q := w_const1 dX9_lands_122 k_0
theorem s127_123  : wp 127 123 [l0, l1, l2, l3, l4, l5, l6] [.inl x] h Q ↔ wp 127 125 [l0, l1, l2, l3, l4, .inl x, l6] [] h Q := wp_step dX9_lands_123 (fun _ => rfl)
theorem s127_125  : wp 127 125 [l0, l1, l2, l3, l4, .inl x, l6] [] h Q ↔ wp 127 127 [l0, l1, l2, l3, l4, .inl x, l6] [.inl x] h Q := wp_step dX9_lands_125 (fun _ => rfl)
theorem s127_127  : wp 127 127 [l0, l1, l2, l3, l4, l5, l6] [v0] h Q ↔ wp 127 129 [l0, l1, l2, l3, l4, l5, l6] [.inl 6, v0] h Q := w_const2 dX9_lands_127 k_6 k8_6
theorem s127_129  : wp 127 129 [l0, l1, l2, l3, l4, l5, l6] [.inl z, .inl x] h Q ↔ if x < z then wp 127 132 [l0, l1, l2, l3, l4, l5, l6] [] h Q else wp 127 184 [l0, l1, l2, l3, l4, l5, l6] [] h Q := w_cge dX9_lands_129 (by decide)
theorem s127_132 (h0 : a ≠ 0) : wp 127 132 [.inr a, l1, l2, l3, l4, l5, l6] [] h Q ↔ wp 127 133 [.inr a, l1, l2, l3, l4, l5, l6] [.inr a] h Q := wp_step dX9_lands_132 (fun _ => if_neg h0)
theorem s127_133  : wp 127 133 [l0, l1, l2, l3, l4, l5, l6] [p0] h Q ↔ wp 126 0 [p0] [] h (kont 127 136 [l0, l1, l2, l3, l4, l5, l6] [] Q) := w_callS (y2 := 126) (kd := 0) (vs := [p0]) (st := []) dX9_lands_133 (by decide +kernel) (by decide) rfl (by decide +kernel) (Nat.le_of_ble_eq_true rfl) (by simp)
theorem s127_136  : wp 127 136 [l0, l1, l2, l3, l4, l5, l6] [.inl x] h Q ↔ wp 127 138 [l0, l1, l2, l3, l4, l5, .inl x] [] h Q := wp_step dX9_lands_136 (fun _ => rfl)
theorem s127_138 (h0 : a ≠ 0) : wp 127 138 [.inr a, l1, l2, l3, l4, l5, l6] [] h Q ↔ wp 127 139 [.inr a, l1, l2, l3, l4, l5, l6] [.inr a] h Q := wp_step dX9_lands_138 (fun _ => if_neg h0)
theorem s127_139  : wp 127 139 [l0, l1, l2, l3, l4, .inl x, l6] [v0] h Q ↔ wp 127 141 [l0, l1, l2, l3, l4, .inl x, l6] [.inl x, v0] h Q := wp_step dX9_lands_139 (fun _ => rfl)
theorem s127_141  : wp 127 141 [l0, l1, l2, l3, l4, l5, l6] [p1, p0] h Q ↔ wp 109 0 [p0, p1] [] h (kont 127 144 [l0, l1, l2, l3, l4, l5, l6] [] Q) := w_callS (y2 := 109) (kd := 0) (vs := [p0, p1]) (st := []) dX9_lands_141 (by decide +kernel) (by decide) rfl (by decide +kernel) (Nat.le_of_ble_eq_true rfl) (by simp)
theorem s127_144  : wp 127 144 [l0, l1, l2, l3, l4, l5, l6] [.inl x] h Q ↔ if x = 0 then wp 127 147 [l0, l1, l2, l3, l4, l5, l6] [] h Q else wp 127 178 [l0, l1, l2, l3, l4, l5, l6] [] h Q := w_ne0 dX9_lands_144 (by decide)
theorem s127_147  : wp 127 147 [l0, l1, l2, l3, l4, l5, .inl x] [] h Q ↔ wp 127 149 [l0, l1, l2, l3, l4, l5, .inl x] [.inl x] h Q := wp_step dX9_lands_147 (fun _ => rfl)
theorem s127_149  : wp 127 149 [l0, l1, l2, l3, l4, l5, l6] [v0] h Q ↔ wp 127 151 [l0, l1, l2, l3, l4, l5, l6] [.inl (-5), v0] h Q := w_const2 dX9_lands_149 k_m5 k8_m5
theorem s127_151  : wp 127 151 [l0, l1, l2, l3, l4, l5, l6] [.inl z, .inl x] h Q ↔ if x = z then wp 127 178 [l0, l1, l2, l3, l4, l5, l6] [] h Q else wp 127 154 [l0, l1, l2, l3, l4, l5, l6] [] h Q := w_ceq dX9_lands_151 (by decide)
theorem s127_154 (h0 : a ≠ 0) : wp 127 154 [.inr a, l1, l2, l3, l4, l5, l6] [] h Q ↔ wp 127 155 [.inr a, l1, l2, l3, l4, l5, l6] [.inr a] h Q := wp_step dX9_lands_154 (fun _ => if_neg h0)
theorem s127_155  : wp 127 155 [l0, l1, l2, l3, l4, .inl x, l6] [v0] h Q ↔ wp 127 157 [l0, l1, l2, l3, l4, .inl x, l6] [.inl x, v0] h Q := wp_step dX9_lands_155 (fun _ => rfl)
theorem s127_157  : wp 127 157 [l0, l1, l2, l3, l4, l5, .inl x] [v0, v1] h Q ↔ wp 127 159 [l0, l1, l2, l3, l4, l5, .inl x] [.inl x, v0, v1] h Q := wp_step dX9_lands_157 (fun _ => rfl)
theorem s127_159  : wp 127 159 [l0, l1, l2, l3, l4, l5, l6] [v0, v1, v2] h Q ↔ wp 127 161 [l0, l1, l2, l3, l4, l5, l6] [.inl 100, v0, v1, v2] h Q := w_const2 dX9_lands_159 k_100 k8_100
theorem s127_161  : wp 127 161 [l0, l1, l2, l3, l4, l5, l6] [p3, p2, p1, p0] h Q ↔ wp 110 0 [p0, p1, p2, p3] [] h (kont 127 164 [l0, l1, l2, l3, l4, l5, l6] [] Q) := w_callS (y2 := 110) (kd := 0) (vs := [p0, p1, p2, p3]) (st := []) dX9_lands_161 (by decide +kernel) (by decide) rfl (by decide +kernel) (Nat.le_of_ble_eq_true rfl) (by simp)
theorem s127_164 (h0 : a ≠ 0) : wp 127 164 [.inr a, l1, l2, l3, l4, l5, l6] [] h Q ↔ wp 127 165 [.inr a, l1, l2, l3, l4, l5, l6] [.inr a] h Q := wp_step dX9_lands_164 (fun _ => if_neg h0)
theorem s127_165  : wp 127 165 [l0, l1, l2, l3, l4, l5, l6] [v0] h Q ↔ wp 127 167 [l0, l1, l2, l3, l4, l5, l6] [.inl 41, v0] h Q := w_const2 dX9_lands_165 k_41 k8_41
theorem s127_167  : wp 127 167 [l0, l1, l2, l3, l4, l5, .inl x] [v0, v1] h Q ↔ wp 127 169 [l0, l1, l2, l3, l4, l5, .inl x] [.inl x, v0, v1] h Q := wp_step dX9_lands_167 (fun _ => rfl)
theorem s127_169  : wp 127 169 [l0, l1, l2, l3, l4, l5, l6] [.inl z, .inl x, v0] h Q ↔ wp 127 170 [l0, l1, l2, l3, l4, l5, l6] [.inl (w32 (x + z)), v0] h Q := wp_step dX9_lands_169 (fun _ => rfl)
theorem s127_170  : wp 127 170 [l0, l1, l2, l3, l4, l5, l6] [p, q] h Q ↔ wp 127 171 [l0, l1, l2, l3, l4, l5, l6] [p, q, p, q] h Q := wp_step dX9_lands_170 (fun _ => rfl)
theorem s127_171 (ha : tg a = 100) (h0 : 0 ≤ x) (h1 : x < ln S a) : wp 127 171 [l0, l1, l2, l3, l4, l5, l6] [.inl x, .inr a, v0, v1] (hp S D) Q ↔ wp 127 172 [l0, l1, l2, l3, l4, l5, l6] [.inl (rd S D a x.toNat), v0, v1] (hp S D) Q := w_iald dX9_lands_171 ha h0 h1
theorem s127_172  : wp 127 172 [l0, l1, l2, l3, l4, l5, l6] [v0, v1, v2] h Q ↔ wp 127 173 [l0, l1, l2, l3, l4, l5, l6] [.inl 1, v0, v1, v2] h Q := w_const1 dX9_lands_172 k_1
theorem s127_173  : wp 127 173 [l0, l1, l2, l3, l4, l5, l6] [.inl z, .inl x, v0, v1] h Q ↔ wp 127 174 [l0, l1, l2, l3, l4, l5, l6] [.inl (w32 (x - z)), v0, v1] h Q := wp_step dX9_lands_173 (fun _ => rfl)
theorem s127_174 (ha : tg a = 100) (h8 : 8 ≤ a) (h0 : 0 ≤ x) (h1 : x < ln S a) : wp 127 174 [l0, l1, l2, l3, l4, l5, l6] [.inl z, .inl x, .inr a] (hp S D) Q ↔ wp 127 175 [l0, l1, l2, l3, l4, l5, l6] [] (hp S (up D a x.toNat z)) Q := w_iast dX9_lands_174 ha h8 h0 h1
theorem s127_175  : wp 127 175 [l0, l1, l2, l3, .inl x, l5, l6] [] h Q ↔ wp 127 178 [l0, l1, l2, l3, .inl (w32 (x + 1)), l5, l6] [] h Q := wp_step dX9_lands_175 (fun _ => rfl)
theorem s127_178  : wp 127 178 [l0, l1, l2, l3, l4, .inl x, l6] [] h Q ↔ wp 127 181 [l0, l1, l2, l3, l4, .inl (w32 (x + 1)), l6] [] h Q := wp_step dX9_lands_178 (fun _ => rfl)
theorem s127_181  : wp 127 181 [l0, l1, l2, l3, l4, l5, l6] [] h Q ↔ wp 127 125 [l0, l1, l2, l3, l4, l5, l6] [] h Q := w_goto dX9_lands_181 (by decide)
theorem s127_184 (h0 : a ≠ 0) : wp 127 184 [.inr a, l1, l2, l3, l4, l5, l6] [] h Q ↔ wp 127 185 [.inr a, l1, l2, l3, l4, l5, l6] [.inr a] h Q := wp_step dX9_lands_184 (fun _ => if_neg h0)
theorem s127_185  : wp 127 185 [l0, l1, l2, l3, l4, l5, l6] [v0] h Q ↔ wp 127 187 [l0, l1, l2, l3, l4, l5, l6] [.inl 48, v0] h Q := w_const2 dX9_lands_185 k_48 k8_48
theorem s127_187  : wp 127 187 [l0, l1, l2, l3, l4, l5, l6] [p, q] h Q ↔ wp 127 188 [l0, l1, l2, l3, l4, l5, l6] [p, q, p, q] h Q := wp_step dX9_lands_187 (fun _ => rfl)
theorem s127_188 (ha : tg a = 100) (h0 : 0 ≤ x) (h1 : x < ln S a) : wp 127 188 [l0, l1, l2, l3, l4, l5, l6] [.inl x, .inr a, v0, v1] (hp S D) Q ↔ wp 127 189 [l0, l1, l2, l3, l4, l5, l6] [.inl (rd S D a x.toNat), v0, v1] (hp S D) Q := w_iald dX9_lands_188 ha h0 h1
theorem s127_189  : wp 127 189 [l0, l1, l2, l3, l4, l5, l6] [v0, v1, v2] h Q ↔ wp 127 190 [l0, l1, l2, l3, l4, l5, l6] [.inl 1, v0, v1, v2] h Q := w_const1 dX9_lands_189 k_1
theorem s127_190  : wp 127 190 [l0, l1, l2, l3, l4, l5, l6] [.inl z, .inl x, v0, v1] h Q ↔ wp 127 191 [l0, l1, l2, l3, l4, l5, l6] [.inl (w32 (x + z)), v0, v1] h Q := wp_step dX9_lands_190 (fun _ => rfl)
theorem s127_191 (ha : tg a = 100) (h8 : 8 ≤ a) (h0 : 0 ≤ x) (h1 : x < ln S a) : wp 127 191 [l0, l1, l2, l3, l4, l5, l6] [.inl z, .inl x, .inr a] (hp S D) Q ↔ wp 127 192 [l0, l1, l2, l3, l4, l5, l6] [] (hp S (up D a x.toNat z)) Q := w_iast dX9_lands_191 ha h8 h0 h1
theorem s127_192 (h0 : a ≠ 0) : wp 127 192 [.inr a, l1, l2, l3, l4, l5, l6] [] h Q ↔ wp 127 193 [.inr a, l1, l2, l3, l4, l5, l6] [.inr a] h Q := wp_step dX9_lands_192 (fun _ => if_neg h0)
theorem s127_193  : wp 127 193 [l0, l1, l2, l3, l4, l5, l6] [v0] h Q ↔ wp 127 194 [l0, l1, l2, l3, l4, l5, l6] [.inl 4, v0] h Q := w_const1 dX9_lands_193 k_4
theorem s127_194  : wp 127 194 [l0, l1, l2, l3, .inl x, l5, l6] [v0, v1] h Q ↔ wp 127 196 [l0, l1, l2, l3, .inl x, l5, l6] [.inl x, v0, v1] h Q := wp_step dX9_lands_194 (fun _ => rfl)
theorem s127_196  : wp 127 196 [l0, l1, l2, l3, l4, l5, l6] [p2, p1, p0] h Q ↔ wp 120 0 [p0, p1, p2, .inr 0] [] h (kont 127 199 [l0, l1, l2, l3, l4, l5, l6] [] Q) := w_callS (y2 := 120) (kd := 0) (vs := [p0, p1, p2]) (st := []) dX9_lands_196 (by decide +kernel) (by decide) rfl (by decide +kernel) (Nat.le_of_ble_eq_true rfl) (by simp)
theorem s127_199  : wp 127 199 [l0, l1, l2, l3, l4, l5, l6] [] h Q ↔ Q none h := w_retv dX9_lands_199 (by decide +kernel)
theorem s128_0 (h0 : a ≠ 0) : wp 128 0 [.inr a, l1, l2, l3, l4, l5, l6] [] h Q ↔ wp 128 1 [.inr a, l1, l2, l3, l4, l5, l6] [.inr a] h Q := wp_step dX9_passes_0 (fun _ => if_neg h0)
theorem s128_1  : wp 128 1 [l0, l1, l2, l3, l4, l5, l6] [v0] h Q ↔ wp 128 3 [l0, l1, l2, l3, l4, l5, l6] [.inl 8, v0] h Q := w_const2 dX9_passes_1 k_8 k8_8
theorem s128_3 (ha : tg a = 100) (h0 : 0 ≤ x) (h1 : x < ln S a) : wp 128 3 [l0, l1, l2, l3, l4, l5, l6] [.inl x, .inr a] (hp S D) Q ↔ wp 128 4 [l0, l1, l2, l3, l4, l5, l6] [.inl (rd S D a x.toNat)] (hp S D) Q := w_iald dX9_passes_3 ha h0 h1
theorem s128_4  : wp 128 4 [l0, l1, l2, l3, l4, l5, l6] [v0] h Q ↔ wp 128 6 [l0, l1, l2, l3, l4, l5, l6] [.inl (-5), v0] h Q := w_const2 dX9_passes_4 k_m5 k8_m5
theorem s128_6  : wp 128 6 [l0, l1, l2, l3, l4, l5, l6] [.inl z, .inl x] h Q ↔ if x = z then wp 128 38 [l0, l1, l2, l3, l4, l5, l6] [] h Q else wp 128 9 [l0, l1, l2, l3, l4, l5, l6] [] h Q := w_ceq dX9_passes_6 (by decide)
theorem s128_9 (h0 : a ≠ 0) : wp 128 9 [.inr a, l1, l2, l3, l4, l5, l6] [] h Q ↔ wp 128 10 [.inr a, l1, l2, l3, l4, l5, l6] [.inr a] h Q := wp_step dX9_passes_9 (fun _ => if_neg h0)
theorem s128_10  : wp 128 10 [l0, l1, l2, l3, l4, l5, l6] [v0] h Q ↔ wp 128 12 [l0, l1, l2, l3, l4, l5, l6] [.inl 9, v0] h Q := w_const2 dX9_passes_10 k_9 k8_9
theorem s128_12  : wp 128 12 [l0, l1, l2, l3, l4, l5, l6] [p, q] h Q ↔ wp 128 13 [l0, l1, l2, l3, l4, l5, l6] [p, q, p, q] h Q := wp_step dX9_passes_12 (fun _ => rfl)
theorem s128_13 (ha : tg a = 100) (h0 : 0 ≤ x) (h1 : x < ln S a) : wp 128 13 [l0, l1, l2, l3, l4, l5, l6] [.inl x, .inr a, v0, v1] (hp S D) Q ↔ wp 128 14 [l0, l1, l2, l3, l4, l5, l6] [.inl (rd S D a x.toNat), v0, v1] (hp S D) Q := w_iald dX9_passes_13 ha h0 h1
theorem s128_14  : wp 128 14 [l0, l1, l2, l3, l4, l5, l6] [v0, v1, v2] h Q ↔ wp 128 15 [l0, l1, l2, l3, l4, l5, l6] [.inl 1, v0, v1, v2] h Q := w_const1 dX9_passes_14 k_1
theorem s128_15  : wp 128 15 [l0, l1, l2, l3, l4, l5, l6] [.inl z, .inl x, v0, v1] h Q ↔ wp 128 16 [l0, l1, l2, l3, l4, l5, l6] [.inl (w32 (x - z)), v0, v1] h Q := wp_step dX9_passes_15 (fun _ => rfl)
theorem s128_16 (ha : tg a = 100) (h8 : 8 ≤ a) (h0 : 0 ≤ x) (h1 : x < ln S a) : wp 128 16 [l0, l1, l2, l3, l4, l5, l6] [.inl z, .inl x, .inr a] (hp S D) Q ↔ wp 128 17 [l0, l1, l2, l3, l4, l5, l6] [] (hp S (up D a x.toNat z)) Q := w_iast dX9_passes_16 ha h8 h0 h1
theorem s128_17 (h0 : a ≠ 0) : wp 128 17 [.inr a, l1, l2, l3, l4, l5, l6] [] h Q ↔ wp 128 18 [.inr a, l1, l2, l3, l4, l5, l6] [.inr a] h Q := wp_step dX9_passes_17 (fun _ => if_neg h0)
theorem s128_18  : wp 128 18 [l0, l1, l2, l3, l4, l5, l6] [v0] h Q ↔ wp 128 20 [l0, l1, l2, l3, l4, l5, l6] [.inl 9, v0] h Q := w_const2 dX9_passes_18 k_9 k8_9
theorem s128_20 (ha : tg a = 100) (h0 : 0 ≤ x) (h1 : x < ln S a) : wp 128 20 [l0, l1, l2, l3, l4, l5, l6] [.inl x, .inr a] (hp S D) Q ↔ wp 128 21 [l0, l1, l2, l3, l4, l5, l6] [.inl (rd S D a x.toNat)] (hp S D) Q := w_iald dX9_passes_20 ha h0 h1
theorem s128_21  : wp 128 21 [l0, l1, l2, l3, l4, l5, l6] [.inl x] h Q ↔ if x = 0 then wp 128 24 [l0, l1, l2, l3, l4, l5, l6] [] h Q else wp 128 38 [l0, l1, l2, l3, l4, l5, l6] [] h Q := w_ne0 dX9_passes_21 (by decide)
theorem s128_24 (h0 : a ≠ 0) : wp 128 24 [.inr a, l1, l2, l3, l4, l5, l6] [] h Q ↔ wp 128 25 [.inr a, l1, l2, l3, l4, l5, l6] [.inr a] h Q := wp_step dX9_passes_24 (fun _ => if_neg h0)
theorem s128_25  : wp 128 25 [l0, l1, l2, l3, l4, l5, l6] [v0] h Q ↔ wp 128 27 [l0, l1, l2, l3, l4, l5, l6] [.inl 7, v0] h Q := w_const2 dX9_passes_25 k_7 k8_7
theorem s128_27 (h0 : a ≠ 0) : wp 128 27 [.inr a, l1, l2, l3, l4, l5, l6] [v0, v1] h Q ↔ wp 128 28 [.inr a, l1, l2, l3, l4, l5, l6] [.inr a, v0, v1] h Q := wp_step dX9_passes_27 (fun _ => if_neg h0)
theorem s128_28  : wp 128 28 [l0, l1, l2, l3, l4, l5, l6] [v0, v1, v2] h Q ↔ wp 128 30 [l0, l1, l2, l3, l4, l5, l6] [.inl 8, v0, v1, v2] h Q := w_const2 dX9_passes_28 k_8 k8_8
theorem s128_30 (ha : tg a = 100) (h0 : 0 ≤ x) (h1 : x < ln S a) : wp 128 30 [l0, l1, l2, l3, l4, l5, l6] [.inl x, .inr a, v0, v1] (hp S D) Q ↔ wp 128 31 [l0, l1, l2, l3, l4, l5, l6] [.inl (rd S D a x.toNat), v0, v1] (hp S D) Q := w_iald dX9_passes_30 ha h0 h1
theorem s128_31 (ha : tg a = 100) (h8 : 8 ≤ a) (h0 : 0 ≤ x) (h1 : x < ln S a) : wp 128 31 [l0, l1, l2, l3, l4, l5, l6] [.inl z, .inl x, .inr a] (hp S D) Q ↔ wp 128 32 [l0, l1, l2, l3, l4, l5, l6] [] (hp S (up D a x.toNat z)) Q := w_iast dX9_passes_31 ha h8 h0 h1
theorem s128_32 (h0 : a ≠ 0) : wp 128 32 [.inr a, l1, l2, l3, l4, l5, l6] [] h Q ↔ wp 128 33 [.inr a, l1, l2, l3, l4, l5, l6] [.inr a] h Q := wp_step dX9_passes_32 (fun _ => if_neg h0)
theorem s128_33  : wp 128 33 [l0, l1, l2, l3, l4, l5, l6] [v0] h Q ↔ wp 128 35 [l0, l1, l2, l3, l4, l5, l6] [.inl 8, v0] h Q := w_const2 dX9_passes_33 k_8 k8_8
theorem s128_35  : wp 128 35 [l0, l1, l2, l3, l4, l5, l6] [v0, v1] h Q ↔ wp 128 37 [l0, l1, l2, l3, l4, l5, l6] [.inl (-5), v0, v1] h Q := w_const2 dX9_passes_35 k_m5 k8_m5
theorem s128_37 (ha : tg a = 100) (h8 : 8 ≤ a) (h0 : 0 ≤ x) (h1 : x < ln S a) : wp 128 37 [l0, l1, l2, l3, l4, l5, l6] [.inl z, .inl x, .inr a] (hp S D) Q ↔ wp 128 38 [l0, l1, l2, l3, l4, l5, l6] [] (hp S (up D a x.toNat z)) Q := w_iast dX9_passes_37 ha h8 h0 h1
theorem s128_38 (h0 : a ≠ 0) : wp 128 38 [.inr a, l1, l2, l3, l4, l5, l6] [] h Q ↔ wp 128 39 [.inr a, l1, l2, l3, l4, l5, l6] [.inr a] h Q := wp_step dX9_passes_38 (fun _ => if_neg h0)
theorem s128_39  : wp 128 39 [l0, l1, l2, l3, l4, l5, l6] [p0] h Q ↔ wp 122 0 [p0, .inr 0] [] h (kont 128 42 [l0, l1, l2, l3, l4, l5, l6] [] Q) := w_callS (y2 := 122) (kd := 0) (vs := [p0]) (st := []) dX9_passes_39 (by decide +kernel) (by decide) rfl (by decide +kernel) (Nat.le_of_ble_eq_true rfl) (by simp)
theorem s128_42  : wp 128 42 [l0, l1, l2, l3, l4, l5, l6] [.inl x] h Q ↔ wp 128 43 [l0, l1, .inl x, l3, l4, l5, l6] [] h Q := wp_step dX9_passes_42 (fun _ => rfl)
theorem s128_43 (h0 : a ≠ 0) : wp 128 43 [.inr a, l1, l2, l3, l4, l5, l6] [] h Q ↔ wp 128 44 [.inr a, l1, l2, l3, l4, l5, l6] [.inr a] h Q := wp_step dX9_passes_43 (fun _ => if_neg h0)
theorem s128_44  : wp 128 44 [l0, l1, l2, l3, l4, l5, l6] [v0] h Q ↔ wp 128 46 [l0, l1, l2, l3, l4, l5, l6] [.inl 8, v0] h Q := w_const2 dX9_passes_44 k_8 k8_8
theorem s128_46 (ha : tg a = 100) (h0 : 0 ≤ x) (h1 : x < ln S a) : wp 128 46 [l0, l1, l2, l3, l4, l5, l6] [.inl x, .inr a] (hp S D) Q ↔ wp 128 47 [l0, l1, l2, l3, l4, l5, l6] [.inl (rd S D a x.toNat)] (hp S D) Q := w_iald dX9_passes_46 ha h0 h1
theorem s128_47  : wp 128 47 [l0, l1, l2, l3, l4, l5, l6] [v0] h Q ↔ wp 128 49 [l0, l1, l2, l3, l4, l5, l6] [.inl (-5), v0] h Q := w_const2 dX9_passes_47 k_m5 k8_m5
theorem s128_49  : wp 128 49 [l0, l1, l2, l3, l4, l5, l6] [.inl z, .inl x] h Q ↔ if x = z then wp 128 52 [l0, l1, l2, l3, l4, l5, l6] [] h Q else wp 128 56 [l0, l1, l2, l3, l4, l5, l6] [] h Q := w_cne dX9_passes_49 (by decide)
theorem s128_52  : wp 128 52 [l0, l1, l2, l3, l4, l5, l6] [] h Q ↔ wp 128 53 [l0, l1, l2, l3, l4, l5, l6] [.inl 1] h Q := w_const1 dX9_passes_52 k_1
theorem s128_53  : wp 128 53 [l0, l1, l2, l3, l4, l5, l6] [v0] h Q ↔ wp 128 57 [l0, l1, l2, l3, l4, l5, l6] [v0] h Q := w_goto dX9_passes_53 (by decide)
theorem s128_56  : wp 128 56 [l0, l1, l2, l3, l4, l5, l6] [] h Q ↔ wp 128 57 [l0, l1, l2, l3, l4, l5, l6] [.inl 0] h Q := w_const1 dX9_passes_56 k_0
theorem s128_57  : wp 128 57 [l0, l1, l2, l3, l4, l5, l6] [.inl x] h Q ↔ wp 128 58 [l0, l1, l2, .inl x, l4, l5, l6] [] h Q := wp_step dX9_passes_57 (fun _ => rfl)
theorem s128_58  : wp 128 58 [l0, l1, .inl x, l3, l4, l5, l6] [] h Q ↔ wp 128 59 [l0, l1, .inl x, l3, l4, l5, l6] [.inl x] h Q := wp_step dX9_passes_58 (fun _ => rfl)
theorem s128_59  : wp 128 59 [l0, l1, l2, l3, l4, l5, l6] [.inl x] h Q ↔ if x = 0 then wp 128 77 [l0, l1, l2, l3, l4, l5, l6] [] h Q else wp 128 62 [l0, l1, l2, l3, l4, l5, l6] [] h Q := w_eq0 dX9_passes_59 (by decide)
theorem s128_62  : wp 128 62 [l0, l1, l2, .inl x, l4, l5, l6] [] h Q ↔ wp 128 63 [l0, l1, l2, .inl x, l4, l5, l6] [.inl x] h Q := wp_step dX9_passes_62 (fun _ => rfl)
theorem s128_63  : wp 128 63 [l0, l1, l2, l3, l4, l5, l6] [.inl x] h Q ↔ if x = 0 then wp 128 77 [l0, l1, l2, l3, l4, l5, l6] [] h Q else wp 128 66 [l0, l1, l2, l3, l4, l5, l6] [] h Q := w_eq0 dX9_passes_63 (by decide)
theorem s128_66 (h0 : a ≠ 0) : wp 128 66 [.inr a, l1, l2, l3, l4, l5, l6] [] h Q ↔ wp 128 67 [.inr a, l1, l2, l3, l4, l5, l6] [.inr a] h Q := wp_step dX9_passes_66 (fun _ => if_neg h0)
theorem s128_67  : wp 128 67 [l0, l1, l2, l3, l4, l5, l6] [p0] h Q ↔ wp 124 0 [p0, .inr 0, .inr 0] [] h (kont 128 70 [l0, l1, l2, l3, l4, l5, l6] [] Q) := w_callS (y2 := 124) (kd := 0) (vs := [p0]) (st := []) dX9_passes_67 (by decide +kernel) (by decide) rfl (by decide +kernel) (Nat.le_of_ble_eq_true rfl) (by simp)
theorem s128_70  : wp 128 70 [l0, l1, l2, l3, l4, l5, l6] [.inl x] h Q ↔ if x = 0 then wp 128 77 [l0, l1, l2, l3, l4, l5, l6] [] h Q else wp 128 73 [l0, l1, l2, l3, l4, l5, l6] [] h Q := w_eq0 dX9_passes_70 (by decide)
theorem s128_73  : wp 128 73 [l0, l1, l2, l3, l4, l5, l6] [] h Q ↔ wp 128 74 [l0, l1, l2, l3, l4, l5, l6] [.inl 1] h Q := w_const1 dX9_passes_73 k_1
theorem s128_74  : wp 128 74 [l0, l1, l2, l3, l4, l5, l6] [v0] h Q ↔ wp 128 78 [l0, l1, l2, l3, l4, l5, l6] [v0] h Q := w_goto dX9_passes_74 (by decide)
theorem s128_77  : wp 128 77 [l0, l1, l2, l3, l4, l5, l6] [] h Q ↔ wp 128 78 [l0, l1, l2, l3, l4, l5, l6] [.inl 0] h Q := w_const1 dX9_passes_77 k_0
theorem s128_78  : wp 128 78 [l0, l1, l2, l3, l4, l5, l6] [.inl x] h Q ↔ wp 128 80 [l0, l1, l2, l3, .inl x, l5, l6] [] h Q := wp_step dX9_passes_78 (fun _ => rfl)
theorem s128_80  : wp 128 80 [l0, l1, l2, .inl x, l4, l5, l6] [] h Q ↔ wp 128 81 [l0, l1, l2, .inl x, l4, l5, l6] [.inl x] h Q := wp_step dX9_passes_80 (fun _ => rfl)
theorem s128_81  : wp 128 81 [l0, l1, l2, l3, l4, l5, l6] [.inl x] h Q ↔ if x = 0 then wp 128 92 [l0, l1, l2, l3, l4, l5, l6] [] h Q else wp 128 84 [l0, l1, l2, l3, l4, l5, l6] [] h Q := w_eq0 dX9_passes_81 (by decide)
theorem s128_84  : wp 128 84 [l0, l1, .inl x, l3, l4, l5, l6] [] h Q ↔ wp 128 85 [l0, l1, .inl x, l3, l4, l5, l6] [.inl x] h Q := wp_step dX9_passes_84 (fun _ => rfl)
theorem s128_85  : wp 128 85 [l0, l1, l2, l3, l4, l5, l6] [.inl x] h Q ↔ if x = 0 then wp 128 88 [l0, l1, l2, l3, l4, l5, l6] [] h Q else wp 128 92 [l0, l1, l2, l3, l4, l5, l6] [] h Q := w_ne0 dX9_passes_85 (by decide)
theorem s128_88 (h0 : a ≠ 0) : wp 128 88 [.inr a, l1, l2, l3, l4, l5, l6] [] h Q ↔ wp 128 89 [.inr a, l1, l2, l3, l4, l5, l6] [.inr a] h Q := wp_step dX9_passes_88 (fun _ => if_neg h0)
theorem s128_89  : wp 128 89 [l0, l1, l2, l3, l4, l5, l6] [p0] h Q ↔ wp 125 0 [p0, .inr 0] [] h (kont 128 92 [l0, l1, l2, l3, l4, l5, l6] [] Q) := w_callS (y2 := 125) (kd := 0) (vs := [p0]) (st := []) dX9_passes_89 (by decide +kernel) (by decide) rfl (by decide +kernel) (Nat.le_of_ble_eq_true rfl) (by simp)
theorem s128_92  : wp 128 92 [l0, l1, .inl x, l3, l4, l5, l6] [] h Q ↔ wp 128 93 [l0, l1, .inl x, l3, l4, l5, l6] [.inl x] h Q := wp_step dX9_passes_92 (fun _ => rfl)
theorem s128_93  : wp 128 93 [l0, l1, l2, l3, l4, l5, l6] [.inl x] h Q ↔ if x = 0 then wp 128 105 [l0, l1, l2, l3, l4, l5, l6] [] h Q else wp 128 96 [l0, l1, l2, l3, l4, l5, l6] [] h Q := w_eq0 dX9_passes_93 (by decide)
theorem s128_96  : wp 128 96 [l0, l1, l2, l3, .inl x, l5, l6] [] h Q ↔ wp 128 98 [l0, l1, l2, l3, .inl x, l5, l6] [.inl x] h Q := wp_step dX9_passes_96 (fun _ => rfl)
theorem s128_98  : wp 128 98 [l0, l1, l2, l3, l4, l5, l6] [.inl x] h Q ↔ if x = 0 then wp 128 101 [l0, l1, l2, l3, l4, l5, l6] [] h Q else wp 128 105 [l0, l1, l2, l3, l4, l5, l6] [] h Q := w_ne0 dX9_passes_98 (by decide)
theorem s128_101  : wp 128 101 [l0, l1, l2, l3, l4, l5, l6] [] h Q ↔ wp 128 102 [l0, l1, l2, l3, l4, l5, l6] [.inl 1] h Q := w_const1 dX9_passes_101 k_1
theorem s128_102  : wp 128 102 [l0, l1, l2, l3, l4, l5, l6] [v0] h Q ↔ wp 128 106 [l0, l1, l2, l3, l4, l5, l6] [v0] h Q := w_goto dX9_passes_102 (by decide)
theorem s128_105  : wp 128 105 [l0, l1, l2, l3, l4, l5, l6] [] h Q ↔ wp 128 106 [l0, l1, l2, l3, l4, l5, l6] [.inl 0] h Q := w_const1 dX9_passes_105 k_0
theorem s128_106  : wp 128 106 [l0, l1, l2, l3, l4, l5, l6] [.inl x] h Q ↔ wp 128 108 [l0, l1, l2, l3, l4, .inl x, l6] [] h Q := wp_step dX9_passes_106 (fun _ => rfl)
theorem s128_108 (h0 : a ≠ 0) : wp 128 108 [.inr a, l1, l2, l3, l4, l5, l6] [] h Q ↔ wp 128 109 [.inr a, l1, l2, l3, l4, l5, l6] [.inr a] h Q := wp_step dX9_passes_108 (fun _ => if_neg h0)
theorem s128_109  : wp 128 109 [l0, l1, l2, l3, l4, l5, l6] [v0] h Q ↔ wp 128 111 [l0, l1, l2, l3, l4, l5, l6] [.inl 44, v0] h Q := w_const2 dX9_passes_109 k_44 k8_44
theorem s128_111  : wp 128 111 [l0, l1, l2, l3, l4, l5, l6] [p, q] h Q ↔ wp 128 112 [l0, l1, l2, l3, l4, l5, l6] [p, q, p, q] h Q := wp_step dX9_passes_111 (fun _ => rfl)
theorem s128_112 (ha : tg a = 100) (h0 : 0 ≤ x) (h1 : x < ln S a) : wp 128 112 [l0, l1, l2, l3, l4, l5, l6] [.inl x, .inr a, v0, v1] (hp S D) Q ↔ wp 128 113 [l0, l1, l2, l3, l4, l5, l6] [.inl (rd S D a x.toNat), v0, v1] (hp S D) Q := w_iald dX9_passes_112 ha h0 h1
theorem s128_113  : wp 128 113 [l0, l1, l2, l3, l4, .inl x, l6] [v0, v1, v2] h Q ↔ wp 128 115 [l0, l1, l2, l3, l4, .inl x, l6] [.inl x, v0, v1, v2] h Q := wp_step dX9_passes_113 (fun _ => rfl)
theorem s128_115  : wp 128 115 [l0, l1, l2, l3, l4, l5, l6] [.inl x, v0, v1, v2] h Q ↔ if x = 0 then wp 128 122 [l0, l1, l2, l3, l4, l5, l6] [v0, v1, v2] h Q else wp 128 118 [l0, l1, l2, l3, l4, l5, l6] [v0, v1, v2] h Q := w_eq0 dX9_passes_115 (by decide)
theorem s128_118  : wp 128 118 [l0, l1, l2, l3, l4, l5, l6] [v0, v1, v2] h Q ↔ wp 128 119 [l0, l1, l2, l3, l4, l5, l6] [.inl 1, v0, v1, v2] h Q := w_const1 dX9_passes_118 k_1
theorem s128_119  : wp 128 119 [l0, l1, l2, l3, l4, l5, l6] [v0, v1, v2, v3] h Q ↔ wp 128 123 [l0, l1, l2, l3, l4, l5, l6] [v0, v1, v2, v3] h Q := w_goto dX9_passes_119 (by decide)
theorem s128_122  : wp 128 122 [l0, l1, l2, l3, l4, l5, l6] [v0, v1, v2] h Q ↔ wp 128 123 [l0, l1, l2, l3, l4, l5, l6] [.inl 0, v0, v1, v2] h Q := w_const1 dX9_passes_122 k_0
theorem s128_123  : wp 128 123 [l0, l1, l2, l3, l4, l5, l6] [.inl z, .inl x, v0, v1] h Q ↔ wp 128 124 [l0, l1, l2, l3, l4, l5, l6] [.inl (w32 (x + z)), v0, v1] h Q := wp_step dX9_passes_123 (fun _ => rfl)
theorem s128_124 (ha : tg a = 100) (h8 : 8 ≤ a) (h0 : 0 ≤ x) (h1 : x < ln S a) : wp 128 124 [l0, l1, l2, l3, l4, l5, l6] [.inl z, .inl x, .inr a] (hp S D) Q ↔ wp 128 125 [l0, l1, l2, l3, l4, l5, l6] [] (hp S (up D a x.toNat z)) Q := w_iast dX9_passes_124 ha h8 h0 h1
theorem s128_125 (h0 : a ≠ 0) : wp 128 125 [.inr a, l1, l2, l3, l4, l5, l6] [] h Q ↔ wp 128 126 [.inr a, l1, l2, l3, l4, l5, l6] [.inr a] h Q := wp_step dX9_passes_125 (fun _ => if_neg h0)
theorem s128_126  : wp 128 126 [l0, l1, l2, l3, l4, l5, l6] [v0] h Q ↔ wp 128 128 [l0, l1, l2, l3, l4, l5, l6] [.inl 45, v0] h Q := w_const2 dX9_passes_126 k_45 k8_45
theorem s128_128  : wp 128 128 [l0, l1, l2, l3, l4, .inl x, l6] [v0, v1] h Q ↔ wp 128 130 [l0, l1, l2, l3, l4, .inl x, l6] [.inl x, v0, v1] h Q := wp_step dX9_passes_128 (fun _ => rfl)
theorem s128_130  : wp 128 130 [l0, l1, l2, l3, l4, l5, l6] [.inl x, v0, v1] h Q ↔ if x = 0 then wp 128 142 [l0, l1, l2, l3, l4, l5, l6] [v0, v1] h Q else wp 128 133 [l0, l1, l2, l3, l4, l5, l6] [v0, v1] h Q := w_eq0 dX9_passes_130 (by decide)
theorem s128_133 (h0 : a ≠ 0) : wp 128 133 [.inr a, l1, l2, l3, l4, l5, l6] [v0, v1] h Q ↔ wp 128 134 [.inr a, l1, l2, l3, l4, l5, l6] [.inr a, v0, v1] h Q := wp_step dX9_passes_133 (fun _ => if_neg h0)
theorem s128_134  : wp 128 134 [l0, l1, l2, l3, l4, l5, l6] [v0, v1, v2] h Q ↔ wp 128 136 [l0, l1, l2, l3, l4, l5, l6] [.inl 45, v0, v1, v2] h Q := w_const2 dX9_passes_134 k_45 k8_45
theorem s128_136 (ha : tg a = 100) (h0 : 0 ≤ x) (h1 : x < ln S a) : wp 128 136 [l0, l1, l2, l3, l4, l5, l6] [.inl x, .inr a, v0, v1] (hp S D) Q ↔ wp 128 137 [l0, l1, l2, l3, l4, l5, l6] [.inl (rd S D a x.toNat), v0, v1] (hp S D) Q := w_iald dX9_passes_136 ha h0 h1
theorem s128_137  : wp 128 137 [l0, l1, l2, l3, l4, l5, l6] [v0, v1, v2] h Q ↔ wp 128 138 [l0, l1, l2, l3, l4, l5, l6] [.inl 1, v0, v1, v2] h Q := w_const1 dX9_passes_137 k_1
theorem s128_138  : wp 128 138 [l0, l1, l2, l3, l4, l5, l6] [.inl z, .inl x, v0, v1] h Q ↔ wp 128 139 [l0, l1, l2, l3, l4, l5, l6] [.inl (w32 (x + z)), v0, v1] h Q := wp_step dX9_passes_138 (fun _ => rfl)
theorem s128_139  : wp 128 139 [l0, l1, l2, l3, l4, l5, l6] [v0, v1, v2] h Q ↔ wp 128 154 [l0, l1, l2, l3, l4, l5, l6] [v0, v1, v2] h Q := w_goto dX9_passes_139 (by decide)
theorem s128_142  : wp 128 142 [l0, l1, .inl x, l3, l4, l5, l6] [v0, v1] h Q ↔ wp 128 143 [l0, l1, .inl x, l3, l4, l5, l6] [.inl x, v0, v1] h Q := wp_step dX9_passes_142 (fun _ => rfl)
theorem s128_143  : wp 128 143 [l0, l1, l2, l3, l4, l5, l6] [.inl x, v0, v1] h Q ↔ if x = 0 then wp 128 150 [l0, l1, l2, l3, l4, l5, l6] [v0, v1] h Q else wp 128 146 [l0, l1, l2, l3, l4, l5, l6] [v0, v1] h Q := w_eq0 dX9_passes_143 (by decide)
theorem s128_146  : wp 128 146 [l0, l1, l2, l3, l4, l5, l6] [v0, v1] h Q ↔ wp 128 147 [l0, l1, l2, l3, l4, l5, l6] [.inl 0, v0, v1] h Q := w_const1 dX9_passes_146 k_0
theorem s128_147  : wp 128 147 [l0, l1, l2, l3, l4, l5, l6] [v0, v1, v2] h Q ↔ wp 128 154 [l0, l1, l2, l3, l4, l5, l6] [v0, v1, v2] h Q := w_goto dX9_passes_147 (by decide)
theorem s128_150 (h0 : a ≠ 0) : wp 128 150 [.inr a, l1, l2, l3, l4, l5, l6] [v0, v1] h Q ↔ wp 128 151 [.inr a, l1, l2, l3, l4, l5, l6] [.inr a, v0, v1] h Q := wp_step dX9_passes_150 (fun _ => if_neg h0)
theorem s128_151  : wp 128 151 [l0, l1, l2, l3, l4, l5, l6] [v0, v1, v2] h Q ↔ wp 128 153 [l0, l1, l2, l3, l4, l5, l6] [.inl 45, v0, v1, v2] h Q := w_const2 dX9_passes_151 k_45 k8_45
theorem s128_153 (ha : tg a = 100) (h0 : 0 ≤ x) (h1 : x < ln S a) : wp 128 153 [l0, l1, l2, l3, l4, l5, l6] [.inl x, .inr a, v0, v1] (hp S D) Q ↔ wp 128 154 [l0, l1, l2, l3, l4, l5, l6] [.inl (rd S D a x.toNat), v0, v1] (hp S D) Q := w_iald dX9_passes_153 ha h0 h1
theorem s128_154 (ha : tg a = 100) (h8 : 8 ≤ a) (h0 : 0 ≤ x) (h1 : x < ln S a) : wp 128 154 [l0, l1, l2, l3, l4, l5, l6] [.inl z, .inl x, .inr a] (hp S D) Q ↔ wp 128 155 [l0, l1, l2, l3, l4, l5, l6] [] (hp S (up D a x.toNat z)) Q := w_iast dX9_passes_154 ha h8 h0 h1
theorem s128_155 (h0 : a ≠ 0) : wp 128 155 [.inr a, l1, l2, l3, l4, l5, l6] [] h Q ↔ wp 128 156 [.inr a, l1, l2, l3, l4, l5, l6] [.inr a] h Q := wp_step dX9_passes_155 (fun _ => if_neg h0)
theorem s128_156  : wp 128 156 [l0, l1, l2, l3, l4, l5, l6] [v0] h Q ↔ wp 128 158 [l0, l1, l2, l3, l4, l5, l6] [.inl 46, v0] h Q := w_const2 dX9_passes_156 k_46 k8_46
theorem s128_158 (h0 : a ≠ 0) : wp 128 158 [.inr a, l1, l2, l3, l4, l5, l6] [v0, v1] h Q ↔ wp 128 159 [.inr a, l1, l2, l3, l4, l5, l6] [.inr a, v0, v1] h Q := wp_step dX9_passes_158 (fun _ => if_neg h0)
theorem s128_159  : wp 128 159 [l0, l1, l2, l3, l4, l5, l6] [v0, v1, v2] h Q ↔ wp 128 161 [l0, l1, l2, l3, l4, l5, l6] [.inl 45, v0, v1, v2] h Q := w_const2 dX9_passes_159 k_45 k8_45
theorem s128_161 (ha : tg a = 100) (h0 : 0 ≤ x) (h1 : x < ln S a) : wp 128 161 [l0, l1, l2, l3, l4, l5, l6] [.inl x, .inr a, v0, v1] (hp S D) Q ↔ wp 128 162 [l0, l1, l2, l3, l4, l5, l6] [.inl (rd S D a x.toNat), v0, v1] (hp S D) Q := w_iald dX9_passes_161 ha h0 h1
theorem s128_162 (h0 : a ≠ 0) : wp 128 162 [.inr a, l1, l2, l3, l4, l5, l6] [v0, v1, v2] h Q ↔ wp 128 163 [.inr a, l1, l2, l3, l4, l5, l6] [.inr a, v0, v1, v2] h Q := wp_step dX9_passes_162 (fun _ => if_neg h0)
theorem s128_163  : wp 128 163 [l0, l1, l2, l3, l4, l5, l6] [v0, v1, v2, v3] h Q ↔ wp 128 165 [l0, l1, l2, l3, l4, l5, l6] [.inl 46, v0, v1, v2, v3] h Q := w_const2 dX9_passes_163 k_46 k8_46
theorem s128_165 (ha : tg a = 100) (h0 : 0 ≤ x) (h1 : x < ln S a) : wp 128 165 [l0, l1, l2, l3, l4, l5, l6] [.inl x, .inr a, v0, v1, v2] (hp S D) Q ↔ wp 128 166 [l0, l1, l2, l3, l4, l5, l6] [.inl (rd S D a x.toNat), v0, v1, v2] (hp S D) Q := w_iald dX9_passes_165 ha h0 h1
theorem s128_166  : wp 128 166 [l0, l1, l2, l3, l4, l5, l6] [.inl z, .inl x, v0, v1] h Q ↔ if z < x then wp 128 169 [l0, l1, l2, l3, l4, l5, l6] [v0, v1] h Q else wp 128 176 [l0, l1, l2, l3, l4, l5, l6] [v0, v1] h Q := w_cle dX9_passes_166 (by decide)
theorem s128_169 (h0 : a ≠ 0) : wp 128 169 [.inr a, l1, l2, l3, l4, l5, l6] [v0, v1] h Q ↔ wp 128 170 [.inr a, l1, l2, l3, l4, l5, l6] [.inr a, v0, v1] h Q := wp_step dX9_passes_169 (fun _ => if_neg h0)
theorem s128_170  : wp 128 170 [l0, l1, l2, l3, l4, l5, l6] [v0, v1, v2] h Q ↔ wp 128 172 [l0, l1, l2, l3, l4, l5, l6] [.inl 45, v0, v1, v2] h Q := w_const2 dX9_passes_170 k_45 k8_45
theorem s128_172 (ha : tg a = 100) (h0 : 0 ≤ x) (h1 : x < ln S a) : wp 128 172 [l0, l1, l2, l3, l4, l5, l6] [.inl x, .inr a, v0, v1] (hp S D) Q ↔ wp 128 173 [l0, l1, l2, l3, l4, l5, l6] [.inl (rd S D a x.toNat), v0, v1] (hp S D) Q := w_iald dX9_passes_172 ha h0 h1
theorem s128_173  : wp 128 173 [l0, l1, l2, l3, l4, l5, l6] [v0, v1, v2] h Q ↔ wp 128 180 [l0, l1, l2, l3, l4, l5, l6] [v0, v1, v2] h Q := w_goto dX9_passes_173 (by decide)
theorem s128_176 (h0 : a ≠ 0) : wp 128 176 [.inr a, l1, l2, l3, l4, l5, l6] [v0, v1] h Q ↔ wp 128 177 [.inr a, l1, l2, l3, l4, l5, l6] [.inr a, v0, v1] h Q := wp_step dX9_passes_176 (fun _ => if_neg h0)
theorem s128_177  : wp 128 177 [l0, l1, l2, l3, l4, l5, l6] [v0, v1, v2] h Q ↔ wp 128 179 [l0, l1, l2, l3, l4, l5, l6] [.inl 46, v0, v1, v2] h Q := w_const2 dX9_passes_177 k_46 k8_46
theorem s128_179 (ha : tg a = 100) (h0 : 0 ≤ x) (h1 : x < ln S a) : wp 128 179 [l0, l1, l2, l3, l4, l5, l6] [.inl x, .inr a, v0, v1] (hp S D) Q ↔ wp 128 180 [l0, l1, l2, l3, l4, l5, l6] [.inl (rd S D a x.toNat), v0, v1] (hp S D) Q := w_iald dX9_passes_179 ha h0 h1
theorem s128_180 (ha : tg a = 100) (h8 : 8 ≤ a) (h0 : 0 ≤ x) (h1 : x < ln S a) : wp 128 180 [l0, l1, l2, l3, l4, l5, l6] [.inl z, .inl x, .inr a] (hp S D) Q ↔ wp 128 181 [l0, l1, l2, l3, l4, l5, l6] [] (hp S (up D a x.toNat z)) Q := w_iast dX9_passes_180 ha h8 h0 h1
theorem s128_181  : wp 128 181 [l0, l1, l2, l3, l4, l5, l6] [] h Q ↔ wp 128 182 [l0, l1, l2, l3, l4, l5, l6] [.inl 0] h Q := w_const1 dX9_passes_181 k_0
theorem s128_182  : wp 128 182 [l0, l1, l2, l3, l4, l5, l6] [.inl x] h Q ↔ wp 128 184 [l0, l1, l2, l3, l4, l5, .inl x] [] h Q := wp_step dX9_passes_182 (fun _ => rfl)
theorem s128_184  : wp 128 184 [l0, l1, l2, l3, l4, l5, .inl x] [] h Q ↔ wp 128 186 [l0, l1, l2, l3, l4, l5, .inl x] [.inl x] h Q := wp_step dX9_passes_184 (fun _ => rfl)
theorem s128_186 (h0 : a ≠ 0) : wp 128 186 [.inr a, l1, l2, l3, l4, l5, l6] [v0] h Q ↔ wp 128 187 [.inr a, l1, l2, l3, l4, l5, l6] [.inr a, v0] h Q := wp_step dX9_passes_186 (fun _ => if_neg h0)
theorem s128_187  : wp 128 187 [l0, l1, l2, l3, l4, l5, l6] [v0, v1] h Q ↔ wp 128 189 [l0, l1, l2, l3, l4, l5, l6] [.inl 49, v0, v1] h Q := w_const2 dX9_passes_187 k_49 k8_49
theorem s128_189 (ha : tg a = 100) (h0 : 0 ≤ x) (h1 : x < ln S a) : wp 128 189 [l0, l1, l2, l3, l4, l5, l6] [.inl x, .inr a, v0] (hp S D) Q ↔ wp 128 190 [l0, l1, l2, l3, l4, l5, l6] [.inl (rd S D a x.toNat), v0] (hp S D) Q := w_iald dX9_passes_189 ha h0 h1
theorem s128_190  : wp 128 190 [l0, l1, l2, l3, l4, l5, l6] [.inl z, .inl x] h Q ↔ if x < z then wp 128 193 [l0, l1, l2, l3, l4, l5, l6] [] h Q else wp 128 229 [l0, l1, l2, l3, l4, l5, l6] [] h Q := w_cge dX9_passes_190 (by decide)
theorem s128_193  : wp 128 193 [l0, .inl x, l2, l3, l4, l5, l6] [] h Q ↔ wp 128 194 [l0, .inl x, l2, l3, l4, l5, l6] [.inl x] h Q := wp_step dX9_passes_193 (fun _ => rfl)
theorem s128_194  : wp 128 194 [l0, l1, l2, l3, l4, l5, l6] [.inl x] h Q ↔ if x = 0 then wp 128 229 [l0, l1, l2, l3, l4, l5, l6] [] h Q else wp 128 197 [l0, l1, l2, l3, l4, l5, l6] [] h Q := w_eq0 dX9_passes_194 (by decide)
theorem s128_197 (h0 : a ≠ 0) : wp 128 197 [.inr a, l1, l2, l3, l4, l5, l6] [] h Q ↔ wp 128 198 [.inr a, l1, l2, l3, l4, l5, l6] [.inr a] h Q := wp_step dX9_passes_197 (fun _ => if_neg h0)
theorem s128_198  : wp 128 198 [l0, l1, l2, l3, l4, l5, l6] [v0] h Q ↔ wp 128 200 [l0, l1, l2, l3, l4, l5, l6] [.inl 50, v0] h Q := w_const2 dX9_passes_198 k_50 k8_50
theorem s128_200  : wp 128 200 [l0, l1, l2, l3, l4, l5, l6] [v0, v1] h Q ↔ wp 128 201 [l0, l1, l2, l3, l4, l5, l6] [.inl 3, v0, v1] h Q := w_const1 dX9_passes_200 k_3
theorem s128_201  : wp 128 201 [l0, l1, l2, l3, l4, l5, .inl x] [v0, v1, v2] h Q ↔ wp 128 203 [l0, l1, l2, l3, l4, l5, .inl x] [.inl x, v0, v1, v2] h Q := wp_step dX9_passes_201 (fun _ => rfl)
theorem s128_203  : wp 128 203 [l0, l1, l2, l3, l4, l5, l6] [.inl z, .inl x, v0, v1] h Q ↔ wp 128 204 [l0, l1, l2, l3, l4, l5, l6] [.inl (w32 (x * z)), v0, v1] h Q := wp_step dX9_passes_203 (fun _ => rfl)
theorem s128_204  : wp 128 204 [l0, l1, l2, l3, l4, l5, l6] [.inl z, .inl x, v0] h Q ↔ wp 128 205 [l0, l1, l2, l3, l4, l5, l6] [.inl (w32 (x + z)), v0] h Q := wp_step dX9_passes_204 (fun _ => rfl)
theorem s128_205 (ha : tg a = 100) (h0 : 0 ≤ x) (h1 : x < ln S a) : wp 128 205 [l0, l1, l2, l3, l4, l5, l6] [.inl x, .inr a] (hp S D) Q ↔ wp 128 206 [l0, l1, l2, l3, l4, l5, l6] [.inl (rd S D a x.toNat)] (hp S D) Q := w_iald dX9_passes_205 ha h0 h1
theorem s128_206 (h0 : a ≠ 0) : wp 128 206 [.inr a, l1, l2, l3, l4, l5, l6] [v0] h Q ↔ wp 128 207 [.inr a, l1, l2, l3, l4, l5, l6] [.inr a, v0] h Q := wp_step dX9_passes_206 (fun _ => if_neg h0)
theorem s128_207  : wp 128 207 [l0, l1, l2, l3, l4, l5, l6] [v0, v1] h Q ↔ wp 128 208 [l0, l1, l2, l3, l4, l5, l6] [.inl 0, v0, v1] h Q := w_const1 dX9_passes_207 k_0
theorem s128_208 (ha : tg a = 100) (h0 : 0 ≤ x) (h1 : x < ln S a) : wp 128 208 [l0, l1, l2, l3, l4, l5, l6] [.inl x, .inr a, v0] (hp S D) Q ↔ wp 128 209 [l0, l1, l2, l3, l4, l5, l6] [.inl (rd S D a x.toNat), v0] (hp S D) Q := w_iald dX9_passes_208 ha h0 h1
theorem s128_209  : wp 128 209 [l0, l1, l2, l3, l4, l5, l6] [.inl z, .inl x] h Q ↔ if x = z then wp 128 212 [l0, l1, l2, l3, l4, l5, l6] [] h Q else wp 128 223 [l0, l1, l2, l3, l4, l5, l6] [] h Q := w_cne dX9_passes_209 (by decide)
theorem s128_212 (h0 : a ≠ 0) : wp 128 212 [.inr a, l1, l2, l3, l4, l5, l6] [] h Q ↔ wp 128 213 [.inr a, l1, l2, l3, l4, l5, l6] [.inr a] h Q := wp_step dX9_passes_212 (fun _ => if_neg h0)
theorem s128_213  : wp 128 213 [l0, l1, l2, l3, l4, l5, l6] [v0] h Q ↔ wp 128 215 [l0, l1, l2, l3, l4, l5, l6] [.inl 50, v0] h Q := w_const2 dX9_passes_213 k_50 k8_50
theorem s128_215  : wp 128 215 [l0, l1, l2, l3, l4, l5, l6] [v0, v1] h Q ↔ wp 128 216 [l0, l1, l2, l3, l4, l5, l6] [.inl 3, v0, v1] h Q := w_const1 dX9_passes_215 k_3
theorem s128_216  : wp 128 216 [l0, l1, l2, l3, l4, l5, .inl x] [v0, v1, v2] h Q ↔ wp 128 218 [l0, l1, l2, l3, l4, l5, .inl x] [.inl x, v0, v1, v2] h Q := wp_step dX9_passes_216 (fun _ => rfl)
theorem s128_218  : wp 128 218 [l0, l1, l2, l3, l4, l5, l6] [.inl z, .inl x, v0, v1] h Q ↔ wp 128 219 [l0, l1, l2, l3, l4, l5, l6] [.inl (w32 (x * z)), v0, v1] h Q := wp_step dX9_passes_218 (fun _ => rfl)
theorem s128_219  : wp 128 219 [l0, l1, l2, l3, l4, l5, l6] [.inl z, .inl x, v0] h Q ↔ wp 128 220 [l0, l1, l2, l3, l4, l5, l6] [.inl (w32 (x + z)), v0] h Q := wp_step dX9_passes_219 (fun _ => rfl)
theorem s128_220  : wp 128 220 [l0, l1, l2, l3, l4, l5, l6] [p1, p0] h Q ↔ wp 127 0 [p0, p1, .inr 0, .inr 0, .inr 0, .inr 0, .inr 0] [] h (kont 128 223 [l0, l1, l2, l3, l4, l5, l6] [] Q) := w_callS (y2 := 127) (kd := 0) (vs := [p0, p1]) (st := []) dX9_passes_220 (by decide +kernel) (by decide) rfl (by decide +kernel) (Nat.le_of_ble_eq_true rfl) (by simp)
theorem s128_223  : wp 128 223 [l0, l1, l2, l3, l4, l5, .inl x] [] h Q ↔ wp 128 226 [l0, l1, l2, l3, l4, l5, .inl (w32 (x + 1))] [] h Q := wp_step dX9_passes_223 (fun _ => rfl)
theorem s128_226  : wp 128 226 [l0, l1, l2, l3, l4, l5, l6] [] h Q ↔ wp 128 184 [l0, l1, l2, l3, l4, l5, l6] [] h Q := w_goto dX9_passes_226 (by decide)
theorem s128_229 (h0 : a ≠ 0) : wp 128 229 [.inr a, l1, l2, l3, l4, l5, l6] [] h Q ↔ wp 128 230 [.inr a, l1, l2, l3, l4, l5, l6] [.inr a] h Q := wp_step dX9_passes_229 (fun _ => if_neg h0)
theorem s128_230  : wp 128 230 [l0, l1, l2, l3, l4, l5, l6] [v0] h Q ↔ wp 128 231 [l0, l1, l2, l3, l4, l5, l6] [.inl 0, v0] h Q := w_const1 dX9_passes_230 k_0
theorem s128_231  : wp 128 231 [l0, l1, l2, l3, l4, l5, l6] [p, q] h Q ↔ wp 128 232 [l0, l1, l2, l3, l4, l5, l6] [p, q, p, q] h Q := wp_step dX9_passes_231 (fun _ => rfl)
theorem s128_232 (ha : tg a = 100) (h0 : 0 ≤ x) (h1 : x < ln S a) : wp 128 232 [l0, l1, l2, l3, l4, l5, l6] [.inl x, .inr a, v0, v1] (hp S D) Q ↔ wp 128 233 [l0, l1, l2, l3, l4, l5, l6] [.inl (rd S D a x.toNat), v0, v1] (hp S D) Q := w_iald dX9_passes_232 ha h0 h1
theorem s128_233  : wp 128 233 [l0, l1, l2, l3, l4, l5, l6] [v0, v1, v2] h Q ↔ wp 128 234 [l0, l1, l2, l3, l4, l5, l6] [.inl 1, v0, v1, v2] h Q := w_const1 dX9_passes_233 k_1
theorem s128_234  : wp 128 234 [l0, l1, l2, l3, l4, l5, l6] [.inl z, .inl x, v0, v1] h Q ↔ wp 128 235 [l0, l1, l2, l3, l4, l5, l6] [.inl (w32 (x + z)), v0, v1] h Q := wp_step dX9_passes_234 (fun _ => rfl)
theorem s128_235 (ha : tg a = 100) (h8 : 8 ≤ a) (h0 : 0 ≤ x) (h1 : x < ln S a) : wp 128 235 [l0, l1, l2, l3, l4, l5, l6] [.inl z, .inl x, .inr a] (hp S D) Q ↔ wp 128 236 [l0, l1, l2, l3, l4, l5, l6] [] (hp S (up D a x.toNat z)) Q := w_iast dX9_passes_235 ha h8 h0 h1
theorem s128_236  : wp 128 236 [l0, l1, l2, l3, l4, .inl x, l6] [] h Q ↔ wp 128 238 [l0, l1, l2, l3, l4, .inl x, l6] [.inl x] h Q := wp_step dX9_passes_236 (fun _ => rfl)
theorem s128_238 (h0 : x = 0 ∨ x = 1) : wp 128 238 [l0, l1, l2, l3, l4, l5, l6] [.inl x] h Q ↔ Q (some (.inl x)) h := w_reti dX9_passes_238 (e_rz (by decide +kernel) h0)
theorem s129_0  : wp 129 0 [.inl x, l1] [] h Q ↔ wp 129 1 [.inl x, l1] [.inl x] h Q := wp_step dX9_isFor_0 (fun _ => rfl)
theorem s129_1  : wp 129 1 [l0, l1] [.inl x] h Q ↔ if x = 0 then wp 129 28 [l0, l1] [] h Q else if x = 1 then wp 129 37 [l0, l1] [] h Q else if x = 2 then wp 129 37 [l0, l1] [] h Q else wp 129 44 [l0, l1] [] h Q := by
  have T := w_table (y := 129) (ls := [l0, l1]) (st := []) (h := h) (Q := Q) (x := x) (fun i => ([28, 37, 37] : List Nat).getD i 0) dX9_isFor_1 44 (by decide) (by
    intro i hi
    rcases (show i = 0 ∨ i = 1 ∨ i = 2 by omega) with rfl | rfl | rfl <;> exact ⟨_, rfl, by decide⟩)
  rw [T]
  by_cases hc : x < 0 ∨ 2 < x
  · rw [if_pos hc]
    rw [if_neg (show ¬ x = 0 by omega), if_neg (show ¬ x = 1 by omega), if_neg (show ¬ x = 2 by omega)]
  · rw [if_neg hc]
    rcases (show x = 0 ∨ x = 1 ∨ x = 2 by omega) with rfl | rfl | rfl <;> simp
theorem s129_28  : wp 129 28 [l0, .inl x] [] h Q ↔ wp 129 29 [l0, .inl x] [.inl x] h Q := wp_step dX9_isFor_28 (fun _ => rfl)
theorem s129_29  : wp 129 29 [l0, l1] [v0] h Q ↔ wp 129 31 [l0, l1] [.inl 75, v0] h Q := w_const2 dX9_isFor_29 k_75 k8_75
theorem s129_31  : wp 129 31 [l0, l1] [v0, v1] h Q ↔ wp 129 33 [l0, l1] [.inl 99, v0, v1] h Q := w_const2 dX9_isFor_31 k_99 k8_99
theorem s129_33  : wp 129 33 [l0, l1] [p2, p1, p0] h Q ↔ wp 99 0 [p0, p1, p2] [] h (kont 129 36 [l0, l1] [] Q) := w_callS (y2 := 99) (kd := 0) (vs := [p0, p1, p2]) (st := []) dX9_isFor_33 (by decide +kernel) (by decide) rfl (by decide +kernel) (Nat.le_of_ble_eq_true rfl) (by simp)
theorem s129_36 (h0 : x = 0 ∨ x = 1) : wp 129 36 [l0, l1] [.inl x] h Q ↔ Q (some (.inl x)) h := w_reti dX9_isFor_36 (e_rz (by decide +kernel) h0)
theorem s129_37  : wp 129 37 [l0, .inl x] [] h Q ↔ wp 129 38 [l0, .inl x] [.inl x] h Q := wp_step dX9_isFor_37 (fun _ => rfl)
theorem s129_38  : wp 129 38 [l0, l1] [v0] h Q ↔ wp 129 39 [l0, l1] [.inl 1, v0] h Q := w_const1 dX9_isFor_38 k_1
theorem s129_39  : wp 129 39 [l0, l1] [v0, v1] h Q ↔ wp 129 40 [l0, l1] [.inl 5, v0, v1] h Q := w_const1 dX9_isFor_39 k_5
theorem s129_40  : wp 129 40 [l0, l1] [p2, p1, p0] h Q ↔ wp 99 0 [p0, p1, p2] [] h (kont 129 43 [l0, l1] [] Q) := w_callS (y2 := 99) (kd := 0) (vs := [p0, p1, p2]) (st := []) dX9_isFor_40 (by decide +kernel) (by decide) rfl (by decide +kernel) (Nat.le_of_ble_eq_true rfl) (by simp)
theorem s129_43 (h0 : x = 0 ∨ x = 1) : wp 129 43 [l0, l1] [.inl x] h Q ↔ Q (some (.inl x)) h := w_reti dX9_isFor_43 (e_rz (by decide +kernel) h0)
theorem s129_44  : wp 129 44 [l0, .inl x] [] h Q ↔ wp 129 45 [l0, .inl x] [.inl x] h Q := wp_step dX9_isFor_44 (fun _ => rfl)
theorem s129_45  : wp 129 45 [l0, l1] [v0] h Q ↔ wp 129 46 [l0, l1] [.inl 0, v0] h Q := w_const1 dX9_isFor_45 k_0
theorem s129_46  : wp 129 46 [l0, l1] [v0, v1] h Q ↔ wp 129 47 [l0, l1] [.inl 1, v0, v1] h Q := w_const1 dX9_isFor_46 k_1
theorem s129_47  : wp 129 47 [l0, l1] [p2, p1, p0] h Q ↔ wp 99 0 [p0, p1, p2] [] h (kont 129 50 [l0, l1] [] Q) := w_callS (y2 := 99) (kd := 0) (vs := [p0, p1, p2]) (st := []) dX9_isFor_47 (by decide +kernel) (by decide) rfl (by decide +kernel) (Nat.le_of_ble_eq_true rfl) (by simp)
theorem s129_50 (h0 : x = 0 ∨ x = 1) : wp 129 50 [l0, l1] [.inl x] h Q ↔ Q (some (.inl x)) h := w_reti dX9_isFor_50 (e_rz (by decide +kernel) h0)
end ESTEP
