section ESTEP
variable {l0 l1 l2 l3 l4 l5 l6 v0 v1 v2 v3 v4 v5 v6 v7 p q p0 p1 p2 p3 : eV} {a : Nat} {x z : Int} {h : eH} {Q : Option eV → eH → Prop} {S : List Int} {D : eD}
theorem s130_0  : wp 130 0 [l0, .inl x, l2, l3] [] h Q ↔ wp 130 1 [l0, .inl x, l2, l3] [.inl x] h Q := wp_step dX9_set_0 (fun _ => rfl)
theorem s130_1  : wp 130 1 [l0, l1, l2, l3] [v0] h Q ↔ wp 130 2 [l0, l1, l2, l3] [.inl 0, v0] h Q := w_const1 dX9_set_1 k_0
theorem s130_2  : wp 130 2 [l0, l1, l2, l3] [v0, v1] h Q ↔ wp 130 3 [l0, l1, l2, l3] [.inl 3, v0, v1] h Q := w_const1 dX9_set_2 k_3
theorem s130_3  : wp 130 3 [l0, l1, l2, l3] [p2, p1, p0] h Q ↔ wp 99 0 [p0, p1, p2] [] h (kont 130 6 [l0, l1, l2, l3] [] Q) := w_callS (y2 := 99) (kd := 0) (vs := [p0, p1, p2]) (st := []) dX9_set_3 (by decide +kernel) (by decide) rfl (by decide +kernel) (Nat.le_of_ble_eq_true rfl) (by simp)
theorem s130_6  : wp 130 6 [l0, l1, l2, l3] [.inl x] h Q ↔ if x = 0 then wp 130 9 [l0, l1, l2, l3] [] h Q else wp 130 11 [l0, l1, l2, l3] [] h Q := w_ne0 dX9_set_6 (by decide)
theorem s130_9  : wp 130 9 [l0, l1, l2, l3] [] h Q ↔ wp 130 10 [l0, l1, l2, l3] [.inl (-1)] h Q := w_const1 dX9_set_9 k_m1
theorem s130_10  : wp 130 10 [l0, l1, l2, l3] [.inl x] h Q ↔ Q (some (.inl x)) h := w_reti dX9_set_10 (e_ri (by decide +kernel))
theorem s130_11  : wp 130 11 [l0, .inl x, l2, l3] [] h Q ↔ wp 130 12 [l0, .inl x, l2, l3] [.inl x] h Q := wp_step dX9_set_11 (fun _ => rfl)
theorem s130_12  : wp 130 12 [l0, l1, .inl x, l3] [v0] h Q ↔ wp 130 13 [l0, l1, .inl x, l3] [.inl x, v0] h Q := wp_step dX9_set_12 (fun _ => rfl)
theorem s130_13  : wp 130 13 [l0, l1, l2, l3] [p1, p0] h Q ↔ wp 129 0 [p0, p1] [] h (kont 130 16 [l0, l1, l2, l3] [] Q) := w_callS (y2 := 129) (kd := 0) (vs := [p0, p1]) (st := []) dX9_set_13 (by decide +kernel) (by decide) rfl (by decide +kernel) (Nat.le_of_ble_eq_true rfl) (by simp)
theorem s130_16  : wp 130 16 [l0, l1, l2, l3] [.inl x] h Q ↔ if x = 0 then wp 130 19 [l0, l1, l2, l3] [] h Q else wp 130 22 [l0, l1, l2, l3] [] h Q := w_ne0 dX9_set_16 (by decide)
theorem s130_19  : wp 130 19 [l0, l1, l2, l3] [] h Q ↔ wp 130 21 [l0, l1, l2, l3] [.inl (-2)] h Q := w_const2 dX9_set_19 k_m2 k8_m2
theorem s130_21  : wp 130 21 [l0, l1, l2, l3] [.inl x] h Q ↔ Q (some (.inl x)) h := w_reti dX9_set_21 (e_ri (by decide +kernel))
theorem s130_22 (h0 : a ≠ 0) : wp 130 22 [.inr a, l1, l2, l3] [] h Q ↔ wp 130 23 [.inr a, l1, l2, l3] [.inr a] h Q := wp_step dX9_set_22 (fun _ => if_neg h0)
theorem s130_23 (ha : tg a = 8) : wp 130 23 [l0, l1, l2, l3] [.inr a] (hp S D) Q ↔ wp 130 26 [l0, l1, l2, l3] [.inr (a + 1)] (hp S D) Q := w_getR dX9_set_23 (t := 8) (j := 0) (c := 2) (by decide +kernel) (by decide) rfl (ln_ok (by decide) (by decide)) ha
theorem s130_26  : wp 130 26 [l0, l1, l2, l3] [v0] h Q ↔ wp 130 27 [l0, l1, l2, l3] [.inl 3, v0] h Q := w_const1 dX9_set_26 k_3
theorem s130_27  : wp 130 27 [l0, .inl x, l2, l3] [v0, v1] h Q ↔ wp 130 28 [l0, .inl x, l2, l3] [.inl x, v0, v1] h Q := wp_step dX9_set_27 (fun _ => rfl)
theorem s130_28  : wp 130 28 [l0, l1, l2, l3] [.inl z, .inl x, v0] h Q ↔ wp 130 29 [l0, l1, l2, l3] [.inl (w32 (x + z)), v0] h Q := wp_step dX9_set_28 (fun _ => rfl)
theorem s130_29 (ha : tg a = 100) (h0 : 0 ≤ x) (h1 : x < ln S a) : wp 130 29 [l0, l1, l2, l3] [.inl x, .inr a] (hp S D) Q ↔ wp 130 30 [l0, l1, l2, l3] [.inl (rd S D a x.toNat)] (hp S D) Q := w_iald dX9_set_29 ha h0 h1
theorem s130_30  : wp 130 30 [l0, l1, l2, l3] [.inl x] h Q ↔ wp 130 31 [l0, l1, l2, .inl x] [] h Q := wp_step dX9_set_30 (fun _ => rfl)
theorem s130_31  : wp 130 31 [l0, l1, l2, .inl x] [] h Q ↔ wp 130 32 [l0, l1, l2, .inl x] [.inl x] h Q := wp_step dX9_set_31 (fun _ => rfl)
theorem s130_32  : wp 130 32 [l0, l1, .inl x, l3] [v0] h Q ↔ wp 130 33 [l0, l1, .inl x, l3] [.inl x, v0] h Q := wp_step dX9_set_32 (fun _ => rfl)
theorem s130_33  : wp 130 33 [l0, l1, l2, l3] [.inl z, .inl x] h Q ↔ if x = z then wp 130 36 [l0, l1, l2, l3] [] h Q else wp 130 39 [l0, l1, l2, l3] [] h Q := w_cne dX9_set_33 (by decide)
theorem s130_36  : wp 130 36 [l0, l1, l2, l3] [] h Q ↔ wp 130 38 [l0, l1, l2, l3] [.inl (-5)] h Q := w_const2 dX9_set_36 k_m5 k8_m5
theorem s130_38  : wp 130 38 [l0, l1, l2, l3] [.inl x] h Q ↔ Q (some (.inl x)) h := w_reti dX9_set_38 (e_ri (by decide +kernel))
theorem s130_39 (h0 : a ≠ 0) : wp 130 39 [.inr a, l1, l2, l3] [] h Q ↔ wp 130 40 [.inr a, l1, l2, l3] [.inr a] h Q := wp_step dX9_set_39 (fun _ => if_neg h0)
theorem s130_40 (ha : tg a = 8) : wp 130 40 [l0, l1, l2, l3] [.inr a] (hp S D) Q ↔ wp 102 0 [.inr a, .inr 0] [] (hp S D) (kont 130 43 [l0, l1, l2, l3] [] Q) := w_callV (y2 := 102) (vs := []) (st := []) dX9_set_40 (by decide +kernel) rfl (by decide +kernel) (Nat.le_of_ble_eq_true rfl) (by simp) 8 rfl (by decide) ha
theorem s130_43 (h0 : a ≠ 0) : wp 130 43 [.inr a, l1, l2, l3] [] h Q ↔ wp 130 44 [.inr a, l1, l2, l3] [.inr a] h Q := wp_step dX9_set_43 (fun _ => if_neg h0)
theorem s130_44 (ha : tg a = 8) : wp 130 44 [l0, l1, l2, l3] [.inr a] (hp S D) Q ↔ wp 130 47 [l0, l1, l2, l3] [.inr (a + 1)] (hp S D) Q := w_getR dX9_set_44 (t := 8) (j := 0) (c := 2) (by decide +kernel) (by decide) rfl (ln_ok (by decide) (by decide)) ha
theorem s130_47  : wp 130 47 [l0, l1, l2, l3] [v0] h Q ↔ wp 130 48 [l0, l1, l2, l3] [.inl 3, v0] h Q := w_const1 dX9_set_47 k_3
theorem s130_48  : wp 130 48 [l0, .inl x, l2, l3] [v0, v1] h Q ↔ wp 130 49 [l0, .inl x, l2, l3] [.inl x, v0, v1] h Q := wp_step dX9_set_48 (fun _ => rfl)
theorem s130_49  : wp 130 49 [l0, l1, l2, l3] [.inl z, .inl x, v0] h Q ↔ wp 130 50 [l0, l1, l2, l3] [.inl (w32 (x + z)), v0] h Q := wp_step dX9_set_49 (fun _ => rfl)
theorem s130_50  : wp 130 50 [l0, l1, .inl x, l3] [v0, v1] h Q ↔ wp 130 51 [l0, l1, .inl x, l3] [.inl x, v0, v1] h Q := wp_step dX9_set_50 (fun _ => rfl)
theorem s130_51 (ha : tg a = 100) (h8 : 8 ≤ a) (h0 : 0 ≤ x) (h1 : x < ln S a) : wp 130 51 [l0, l1, l2, l3] [.inl z, .inl x, .inr a] (hp S D) Q ↔ wp 130 52 [l0, l1, l2, l3] [] (hp S (up D a x.toNat z)) Q := w_iast dX9_set_51 ha h8 h0 h1
theorem s130_52  : wp 130 52 [l0, l1, l2, .inl x] [] h Q ↔ wp 130 53 [l0, l1, l2, .inl x] [.inl x] h Q := wp_step dX9_set_52 (fun _ => rfl)
theorem s130_53  : wp 130 53 [l0, l1, l2, l3] [.inl x] h Q ↔ Q (some (.inl x)) h := w_reti dX9_set_53 (e_ri (by decide +kernel))
theorem s131_0  : wp 131 0 [l0, .inl x, l2] [] h Q ↔ wp 131 1 [l0, .inl x, l2] [.inl x] h Q := wp_step dX9_setNight_0 (fun _ => rfl)
theorem s131_1  : wp 131 1 [l0, l1, l2] [v0] h Q ↔ wp 131 2 [l0, l1, l2] [.inl 0, v0] h Q := w_const1 dX9_setNight_1 k_0
theorem s131_2  : wp 131 2 [l0, l1, l2] [v0, v1] h Q ↔ wp 131 4 [l0, l1, l2] [.inl 47, v0, v1] h Q := w_const2 dX9_setNight_2 k_47 k8_47
theorem s131_4  : wp 131 4 [l0, l1, l2] [p2, p1, p0] h Q ↔ wp 99 0 [p0, p1, p2] [] h (kont 131 7 [l0, l1, l2] [] Q) := w_callS (y2 := 99) (kd := 0) (vs := [p0, p1, p2]) (st := []) dX9_setNight_4 (by decide +kernel) (by decide) rfl (by decide +kernel) (Nat.le_of_ble_eq_true rfl) (by simp)
theorem s131_7  : wp 131 7 [l0, l1, l2] [.inl x] h Q ↔ if x = 0 then wp 131 25 [l0, l1, l2] [] h Q else wp 131 10 [l0, l1, l2] [] h Q := w_eq0 dX9_setNight_7 (by decide)
theorem s131_10  : wp 131 10 [l0, l1, .inl x] [] h Q ↔ wp 131 11 [l0, l1, .inl x] [.inl x] h Q := wp_step dX9_setNight_10 (fun _ => rfl)
theorem s131_11  : wp 131 11 [l0, l1, l2] [v0] h Q ↔ wp 131 12 [l0, l1, l2] [.inl 0, v0] h Q := w_const1 dX9_setNight_11 k_0
theorem s131_12  : wp 131 12 [l0, l1, l2] [v0, v1] h Q ↔ wp 131 14 [l0, l1, l2] [.inl 47, v0, v1] h Q := w_const2 dX9_setNight_12 k_47 k8_47
theorem s131_14  : wp 131 14 [l0, l1, l2] [p2, p1, p0] h Q ↔ wp 99 0 [p0, p1, p2] [] h (kont 131 17 [l0, l1, l2] [] Q) := w_callS (y2 := 99) (kd := 0) (vs := [p0, p1, p2]) (st := []) dX9_setNight_14 (by decide +kernel) (by decide) rfl (by decide +kernel) (Nat.le_of_ble_eq_true rfl) (by simp)
theorem s131_17  : wp 131 17 [l0, l1, l2] [.inl x] h Q ↔ if x = 0 then wp 131 25 [l0, l1, l2] [] h Q else wp 131 20 [l0, l1, l2] [] h Q := w_eq0 dX9_setNight_17 (by decide)
theorem s131_20  : wp 131 20 [l0, .inl x, l2] [] h Q ↔ wp 131 21 [l0, .inl x, l2] [.inl x] h Q := wp_step dX9_setNight_20 (fun _ => rfl)
theorem s131_21  : wp 131 21 [l0, l1, .inl x] [v0] h Q ↔ wp 131 22 [l0, l1, .inl x] [.inl x, v0] h Q := wp_step dX9_setNight_21 (fun _ => rfl)
theorem s131_22  : wp 131 22 [l0, l1, l2] [.inl z, .inl x] h Q ↔ if x = z then wp 131 25 [l0, l1, l2] [] h Q else wp 131 28 [l0, l1, l2] [] h Q := w_cne dX9_setNight_22 (by decide)
theorem s131_25  : wp 131 25 [l0, l1, l2] [] h Q ↔ wp 131 27 [l0, l1, l2] [.inl (-2)] h Q := w_const2 dX9_setNight_25 k_m2 k8_m2
theorem s131_27  : wp 131 27 [l0, l1, l2] [.inl x] h Q ↔ Q (some (.inl x)) h := w_reti dX9_setNight_27 (e_ri (by decide +kernel))
theorem s131_28 (h0 : a ≠ 0) : wp 131 28 [.inr a, l1, l2] [] h Q ↔ wp 131 29 [.inr a, l1, l2] [.inr a] h Q := wp_step dX9_setNight_28 (fun _ => if_neg h0)
theorem s131_29 (ha : tg a = 8) : wp 131 29 [l0, l1, l2] [.inr a] (hp S D) Q ↔ wp 131 32 [l0, l1, l2] [.inr (a + 1)] (hp S D) Q := w_getR dX9_setNight_29 (t := 8) (j := 0) (c := 2) (by decide +kernel) (by decide) rfl (ln_ok (by decide) (by decide)) ha
theorem s131_32  : wp 131 32 [l0, l1, l2] [v0] h Q ↔ wp 131 33 [l0, l1, l2] [.inl 1, v0] h Q := w_const1 dX9_setNight_32 k_1
theorem s131_33 (ha : tg a = 100) (h0 : 0 ≤ x) (h1 : x < ln S a) : wp 131 33 [l0, l1, l2] [.inl x, .inr a] (hp S D) Q ↔ wp 131 34 [l0, l1, l2] [.inl (rd S D a x.toNat)] (hp S D) Q := w_iald dX9_setNight_33 ha h0 h1
theorem s131_34  : wp 131 34 [l0, .inl x, l2] [v0] h Q ↔ wp 131 35 [l0, .inl x, l2] [.inl x, v0] h Q := wp_step dX9_setNight_34 (fun _ => rfl)
theorem s131_35  : wp 131 35 [l0, l1, l2] [.inl z, .inl x] h Q ↔ if x = z then wp 131 38 [l0, l1, l2] [] h Q else wp 131 51 [l0, l1, l2] [] h Q := w_cne dX9_setNight_35 (by decide)
theorem s131_38 (h0 : a ≠ 0) : wp 131 38 [.inr a, l1, l2] [] h Q ↔ wp 131 39 [.inr a, l1, l2] [.inr a] h Q := wp_step dX9_setNight_38 (fun _ => if_neg h0)
theorem s131_39 (ha : tg a = 8) : wp 131 39 [l0, l1, l2] [.inr a] (hp S D) Q ↔ wp 131 42 [l0, l1, l2] [.inr (a + 1)] (hp S D) Q := w_getR dX9_setNight_39 (t := 8) (j := 0) (c := 2) (by decide +kernel) (by decide) rfl (ln_ok (by decide) (by decide)) ha
theorem s131_42  : wp 131 42 [l0, l1, l2] [v0] h Q ↔ wp 131 43 [l0, l1, l2] [.inl 2, v0] h Q := w_const1 dX9_setNight_42 k_2
theorem s131_43 (ha : tg a = 100) (h0 : 0 ≤ x) (h1 : x < ln S a) : wp 131 43 [l0, l1, l2] [.inl x, .inr a] (hp S D) Q ↔ wp 131 44 [l0, l1, l2] [.inl (rd S D a x.toNat)] (hp S D) Q := w_iald dX9_setNight_43 ha h0 h1
theorem s131_44  : wp 131 44 [l0, l1, .inl x] [v0] h Q ↔ wp 131 45 [l0, l1, .inl x] [.inl x, v0] h Q := wp_step dX9_setNight_44 (fun _ => rfl)
theorem s131_45  : wp 131 45 [l0, l1, l2] [.inl z, .inl x] h Q ↔ if x = z then wp 131 48 [l0, l1, l2] [] h Q else wp 131 51 [l0, l1, l2] [] h Q := w_cne dX9_setNight_45 (by decide)
theorem s131_48  : wp 131 48 [l0, l1, l2] [] h Q ↔ wp 131 50 [l0, l1, l2] [.inl (-5)] h Q := w_const2 dX9_setNight_48 k_m5 k8_m5
theorem s131_50  : wp 131 50 [l0, l1, l2] [.inl x] h Q ↔ Q (some (.inl x)) h := w_reti dX9_setNight_50 (e_ri (by decide +kernel))
theorem s131_51 (h0 : a ≠ 0) : wp 131 51 [.inr a, l1, l2] [] h Q ↔ wp 131 52 [.inr a, l1, l2] [.inr a] h Q := wp_step dX9_setNight_51 (fun _ => if_neg h0)
theorem s131_52 (ha : tg a = 8) : wp 131 52 [l0, l1, l2] [.inr a] (hp S D) Q ↔ wp 102 0 [.inr a, .inr 0] [] (hp S D) (kont 131 55 [l0, l1, l2] [] Q) := w_callV (y2 := 102) (vs := []) (st := []) dX9_setNight_52 (by decide +kernel) rfl (by decide +kernel) (Nat.le_of_ble_eq_true rfl) (by simp) 8 rfl (by decide) ha
theorem s131_55 (h0 : a ≠ 0) : wp 131 55 [.inr a, l1, l2] [] h Q ↔ wp 131 56 [.inr a, l1, l2] [.inr a] h Q := wp_step dX9_setNight_55 (fun _ => if_neg h0)
theorem s131_56 (ha : tg a = 8) : wp 131 56 [l0, l1, l2] [.inr a] (hp S D) Q ↔ wp 131 59 [l0, l1, l2] [.inr (a + 1)] (hp S D) Q := w_getR dX9_setNight_56 (t := 8) (j := 0) (c := 2) (by decide +kernel) (by decide) rfl (ln_ok (by decide) (by decide)) ha
theorem s131_59  : wp 131 59 [l0, l1, l2] [v0] h Q ↔ wp 131 60 [l0, l1, l2] [.inl 1, v0] h Q := w_const1 dX9_setNight_59 k_1
theorem s131_60  : wp 131 60 [l0, .inl x, l2] [v0, v1] h Q ↔ wp 131 61 [l0, .inl x, l2] [.inl x, v0, v1] h Q := wp_step dX9_setNight_60 (fun _ => rfl)
theorem s131_61 (ha : tg a = 100) (h8 : 8 ≤ a) (h0 : 0 ≤ x) (h1 : x < ln S a) : wp 131 61 [l0, l1, l2] [.inl z, .inl x, .inr a] (hp S D) Q ↔ wp 131 62 [l0, l1, l2] [] (hp S (up D a x.toNat z)) Q := w_iast dX9_setNight_61 ha h8 h0 h1
theorem s131_62 (h0 : a ≠ 0) : wp 131 62 [.inr a, l1, l2] [] h Q ↔ wp 131 63 [.inr a, l1, l2] [.inr a] h Q := wp_step dX9_setNight_62 (fun _ => if_neg h0)
theorem s131_63 (ha : tg a = 8) : wp 131 63 [l0, l1, l2] [.inr a] (hp S D) Q ↔ wp 131 66 [l0, l1, l2] [.inr (a + 1)] (hp S D) Q := w_getR dX9_setNight_63 (t := 8) (j := 0) (c := 2) (by decide +kernel) (by decide) rfl (ln_ok (by decide) (by decide)) ha
theorem s131_66  : wp 131 66 [l0, l1, l2] [v0] h Q ↔ wp 131 67 [l0, l1, l2] [.inl 2, v0] h Q := w_const1 dX9_setNight_66 k_2
theorem s131_67  : wp 131 67 [l0, l1, .inl x] [v0, v1] h Q ↔ wp 131 68 [l0, l1, .inl x] [.inl x, v0, v1] h Q := wp_step dX9_setNight_67 (fun _ => rfl)
theorem s131_68 (ha : tg a = 100) (h8 : 8 ≤ a) (h0 : 0 ≤ x) (h1 : x < ln S a) : wp 131 68 [l0, l1, l2] [.inl z, .inl x, .inr a] (hp S D) Q ↔ wp 131 69 [l0, l1, l2] [] (hp S (up D a x.toNat z)) Q := w_iast dX9_setNight_68 ha h8 h0 h1
theorem s131_69  : wp 131 69 [l0, l1, .inl x] [] h Q ↔ wp 131 70 [l0, l1, .inl x] [.inl x] h Q := wp_step dX9_setNight_69 (fun _ => rfl)
theorem s131_70  : wp 131 70 [l0, .inl x, l2] [v0] h Q ↔ wp 131 71 [l0, .inl x, l2] [.inl x, v0] h Q := wp_step dX9_setNight_70 (fun _ => rfl)
theorem s131_71  : wp 131 71 [l0, l1, l2] [.inl z, .inl x] h Q ↔ wp 131 72 [l0, l1, l2] [.inl (w32 (x - z))] h Q := wp_step dX9_setNight_71 (fun _ => rfl)
theorem s131_72  : wp 131 72 [l0, l1, l2] [v0] h Q ↔ wp 131 74 [l0, l1, l2] [.inl 48, v0] h Q := w_const2 dX9_setNight_72 k_48 k8_48
theorem s131_74  : wp 131 74 [l0, l1, l2] [.inl z, .inl x] h Q ↔ wp 131 75 [l0, l1, l2] [.inl (w32 (x + z))] h Q := wp_step dX9_setNight_74 (fun _ => rfl)
theorem s131_75  : wp 131 75 [l0, l1, l2] [v0] h Q ↔ wp 131 77 [l0, l1, l2] [.inl 48, v0] h Q := w_const2 dX9_setNight_75 k_48 k8_48
theorem s131_77 (h0 : z ≠ 0) : wp 131 77 [l0, l1, l2] [.inl z, .inl x] h Q ↔ wp 131 78 [l0, l1, l2] [.inl (w32 (x.tmod z))] h Q := w_rem dX9_setNight_77 h0
theorem s131_78  : wp 131 78 [l0, l1, l2] [.inl x] h Q ↔ Q (some (.inl x)) h := w_reti dX9_setNight_78 (e_ri (by decide +kernel))
theorem s132_0  : wp 132 0 [.inl x] [] h Q ↔ wp 132 1 [.inl x] [.inl x] h Q := wp_step dX9_isKind_0 (fun _ => rfl)
theorem s132_1  : wp 132 1 [l0] [v0] h Q ↔ wp 132 2 [l0] [.inl 0, v0] h Q := w_const1 dX9_isKind_1 k_0
theorem s132_2  : wp 132 2 [l0] [v0, v1] h Q ↔ wp 132 3 [l0] [.inl 2, v0, v1] h Q := w_const1 dX9_isKind_2 k_2
theorem s132_3  : wp 132 3 [l0] [p2, p1, p0] h Q ↔ wp 99 0 [p0, p1, p2] [] h (kont 132 6 [l0] [] Q) := w_callS (y2 := 99) (kd := 0) (vs := [p0, p1, p2]) (st := []) dX9_isKind_3 (by decide +kernel) (by decide) rfl (by decide +kernel) (Nat.le_of_ble_eq_true rfl) (by simp)
theorem s132_6 (h0 : x = 0 ∨ x = 1) : wp 132 6 [l0] [.inl x] h Q ↔ Q (some (.inl x)) h := w_reti dX9_isKind_6 (e_rz (by decide +kernel) h0)
theorem s133_0  : wp 133 0 [l0, .inl x, l2, l3] [] h Q ↔ wp 133 1 [l0, .inl x, l2, l3] [.inl x] h Q := wp_step dX9_putIn_0 (fun _ => rfl)
theorem s133_1  : wp 133 1 [l0, l1, l2, l3] [p0] h Q ↔ wp 100 0 [p0] [] h (kont 133 4 [l0, l1, l2, l3] [] Q) := w_callS (y2 := 100) (kd := 0) (vs := [p0]) (st := []) dX9_putIn_1 (by decide +kernel) (by decide) rfl (by decide +kernel) (Nat.le_of_ble_eq_true rfl) (by simp)
theorem s133_4  : wp 133 4 [l0, l1, l2, l3] [.inl x] h Q ↔ if x = 0 then wp 133 7 [l0, l1, l2, l3] [] h Q else wp 133 9 [l0, l1, l2, l3] [] h Q := w_ne0 dX9_putIn_4 (by decide)
theorem s133_7  : wp 133 7 [l0, l1, l2, l3] [] h Q ↔ wp 133 8 [l0, l1, l2, l3] [.inl (-1)] h Q := w_const1 dX9_putIn_7 k_m1
theorem s133_8  : wp 133 8 [l0, l1, l2, l3] [.inl x] h Q ↔ Q (some (.inl x)) h := w_reti dX9_putIn_8 (e_ri (by decide +kernel))
theorem s133_9  : wp 133 9 [l0, l1, .inl x, l3] [] h Q ↔ wp 133 10 [l0, l1, .inl x, l3] [.inl x] h Q := wp_step dX9_putIn_9 (fun _ => rfl)
theorem s133_10  : wp 133 10 [l0, l1, l2, l3] [p0] h Q ↔ wp 132 0 [p0] [] h (kont 133 13 [l0, l1, l2, l3] [] Q) := w_callS (y2 := 132) (kd := 0) (vs := [p0]) (st := []) dX9_putIn_10 (by decide +kernel) (by decide) rfl (by decide +kernel) (Nat.le_of_ble_eq_true rfl) (by simp)
theorem s133_13  : wp 133 13 [l0, l1, l2, l3] [.inl x] h Q ↔ if x = 0 then wp 133 28 [l0, l1, l2, l3] [] h Q else wp 133 16 [l0, l1, l2, l3] [] h Q := w_eq0 dX9_putIn_13 (by decide)
theorem s133_16  : wp 133 16 [l0, l1, l2, .inl x] [] h Q ↔ wp 133 17 [l0, l1, l2, .inl x] [.inl x] h Q := wp_step dX9_putIn_16 (fun _ => rfl)
theorem s133_17  : wp 133 17 [l0, l1, l2, l3] [v0] h Q ↔ wp 133 19 [l0, l1, l2, l3] [.inl 50, v0] h Q := w_const2 dX9_putIn_17 k_50 k8_50
theorem s133_19  : wp 133 19 [l0, l1, l2, l3] [v0, v1] h Q ↔ wp 133 22 [l0, l1, l2, l3] [.inl 150, v0, v1] h Q := w_const3 dX9_putIn_19 k_150 k16_150
theorem s133_22  : wp 133 22 [l0, l1, l2, l3] [p2, p1, p0] h Q ↔ wp 99 0 [p0, p1, p2] [] h (kont 133 25 [l0, l1, l2, l3] [] Q) := w_callS (y2 := 99) (kd := 0) (vs := [p0, p1, p2]) (st := []) dX9_putIn_22 (by decide +kernel) (by decide) rfl (by decide +kernel) (Nat.le_of_ble_eq_true rfl) (by simp)
theorem s133_25  : wp 133 25 [l0, l1, l2, l3] [.inl x] h Q ↔ if x = 0 then wp 133 28 [l0, l1, l2, l3] [] h Q else wp 133 31 [l0, l1, l2, l3] [] h Q := w_ne0 dX9_putIn_25 (by decide)
theorem s133_28  : wp 133 28 [l0, l1, l2, l3] [] h Q ↔ wp 133 30 [l0, l1, l2, l3] [.inl (-2)] h Q := w_const2 dX9_putIn_28 k_m2 k8_m2
theorem s133_30  : wp 133 30 [l0, l1, l2, l3] [.inl x] h Q ↔ Q (some (.inl x)) h := w_reti dX9_putIn_30 (e_ri (by decide +kernel))
theorem s133_31 (h0 : a ≠ 0) : wp 133 31 [.inr a, l1, l2, l3] [] h Q ↔ wp 133 32 [.inr a, l1, l2, l3] [.inr a] h Q := wp_step dX9_putIn_31 (fun _ => if_neg h0)
theorem s133_32 (ha : tg a = 8) : wp 133 32 [l0, l1, l2, l3] [.inr a] (hp S D) Q ↔ wp 133 35 [l0, l1, l2, l3] [.inr (a + 1)] (hp S D) Q := w_getR dX9_putIn_32 (t := 8) (j := 0) (c := 2) (by decide +kernel) (by decide) rfl (ln_ok (by decide) (by decide)) ha
theorem s133_35  : wp 133 35 [l0, .inl x, l2, l3] [v0] h Q ↔ wp 133 36 [l0, .inl x, l2, l3] [.inl x, v0] h Q := wp_step dX9_putIn_35 (fun _ => rfl)
theorem s133_36  : wp 133 36 [l0, l1, l2, l3] [p1, p0] h Q ↔ wp 109 0 [p0, p1] [] h (kont 133 39 [l0, l1, l2, l3] [] Q) := w_callS (y2 := 109) (kd := 0) (vs := [p0, p1]) (st := []) dX9_putIn_36 (by decide +kernel) (by decide) rfl (by decide +kernel) (Nat.le_of_ble_eq_true rfl) (by simp)
theorem s133_39  : wp 133 39 [l0, l1, l2, l3] [.inl x] h Q ↔ if x = 0 then wp 133 45 [l0, l1, l2, l3] [] h Q else wp 133 42 [l0, l1, l2, l3] [] h Q := w_eq0 dX9_putIn_39 (by decide)
theorem s133_42  : wp 133 42 [l0, l1, l2, l3] [] h Q ↔ wp 133 44 [l0, l1, l2, l3] [.inl (-4)] h Q := w_const2 dX9_putIn_42 k_m4 k8_m4
theorem s133_44  : wp 133 44 [l0, l1, l2, l3] [.inl x] h Q ↔ Q (some (.inl x)) h := w_reti dX9_putIn_44 (e_ri (by decide +kernel))
theorem s133_45 (h0 : a ≠ 0) : wp 133 45 [.inr a, l1, l2, l3] [] h Q ↔ wp 133 46 [.inr a, l1, l2, l3] [.inr a] h Q := wp_step dX9_putIn_45 (fun _ => if_neg h0)
theorem s133_46 (ha : tg a = 8) : wp 133 46 [l0, l1, l2, l3] [.inr a] (hp S D) Q ↔ wp 102 0 [.inr a, .inr 0] [] (hp S D) (kont 133 49 [l0, l1, l2, l3] [] Q) := w_callV (y2 := 102) (vs := []) (st := []) dX9_putIn_46 (by decide +kernel) rfl (by decide +kernel) (Nat.le_of_ble_eq_true rfl) (by simp) 8 rfl (by decide) ha
theorem s133_49 (h0 : a ≠ 0) : wp 133 49 [.inr a, l1, l2, l3] [] h Q ↔ wp 133 50 [.inr a, l1, l2, l3] [.inr a] h Q := wp_step dX9_putIn_49 (fun _ => if_neg h0)
theorem s133_50 (ha : tg a = 8) : wp 133 50 [l0, l1, l2, l3] [.inr a] (hp S D) Q ↔ wp 133 53 [l0, l1, l2, l3] [.inr (a + 1)] (hp S D) Q := w_getR dX9_putIn_50 (t := 8) (j := 0) (c := 2) (by decide +kernel) (by decide) rfl (ln_ok (by decide) (by decide)) ha
theorem s133_53  : wp 133 53 [l0, .inl x, l2, l3] [v0] h Q ↔ wp 133 54 [l0, .inl x, l2, l3] [.inl x, v0] h Q := wp_step dX9_putIn_53 (fun _ => rfl)
theorem s133_54  : wp 133 54 [l0, l1, .inl x, l3] [v0, v1] h Q ↔ wp 133 55 [l0, l1, .inl x, l3] [.inl x, v0, v1] h Q := wp_step dX9_putIn_54 (fun _ => rfl)
theorem s133_55  : wp 133 55 [l0, l1, l2, .inl x] [v0, v1, v2] h Q ↔ wp 133 56 [l0, l1, l2, .inl x] [.inl x, v0, v1, v2] h Q := wp_step dX9_putIn_55 (fun _ => rfl)
theorem s133_56  : wp 133 56 [l0, l1, l2, l3] [p3, p2, p1, p0] h Q ↔ wp 110 0 [p0, p1, p2, p3] [] h (kont 133 59 [l0, l1, l2, l3] [] Q) := w_callS (y2 := 110) (kd := 0) (vs := [p0, p1, p2, p3]) (st := []) dX9_putIn_56 (by decide +kernel) (by decide) rfl (by decide +kernel) (Nat.le_of_ble_eq_true rfl) (by simp)
theorem s133_59 (h0 : a ≠ 0) : wp 133 59 [.inr a, l1, l2, l3] [] h Q ↔ wp 133 60 [.inr a, l1, l2, l3] [.inr a] h Q := wp_step dX9_putIn_59 (fun _ => if_neg h0)
theorem s133_60 (ha : tg a = 8) : wp 133 60 [l0, l1, l2, l3] [.inr a] (hp S D) Q ↔ wp 133 63 [l0, l1, l2, l3] [.inr (a + 1)] (hp S D) Q := w_getR dX9_putIn_60 (t := 8) (j := 0) (c := 2) (by decide +kernel) (by decide) rfl (ln_ok (by decide) (by decide)) ha
theorem s133_63  : wp 133 63 [l0, .inl x, l2, l3] [v0] h Q ↔ wp 133 64 [l0, .inl x, l2, l3] [.inl x, v0] h Q := wp_step dX9_putIn_63 (fun _ => rfl)
theorem s133_64  : wp 133 64 [l0, l1, l2, l3] [p1, p0] h Q ↔ wp 112 0 [p0, p1] [] h (kont 133 67 [l0, l1, l2, l3] [] Q) := w_callS (y2 := 112) (kd := 0) (vs := [p0, p1]) (st := []) dX9_putIn_64 (by decide +kernel) (by decide) rfl (by decide +kernel) (Nat.le_of_ble_eq_true rfl) (by simp)
theorem s133_67  : wp 133 67 [l0, l1, l2, l3] [.inl x] h Q ↔ Q (some (.inl x)) h := w_reti dX9_putIn_67 (e_ri (by decide +kernel))
theorem s134_0  : wp 134 0 [l0, .inl x] [] h Q ↔ wp 134 1 [l0, .inl x] [.inl x] h Q := wp_step dX9_takeOut_0 (fun _ => rfl)
theorem s134_1  : wp 134 1 [l0, l1] [p0] h Q ↔ wp 100 0 [p0] [] h (kont 134 4 [l0, l1] [] Q) := w_callS (y2 := 100) (kd := 0) (vs := [p0]) (st := []) dX9_takeOut_1 (by decide +kernel) (by decide) rfl (by decide +kernel) (Nat.le_of_ble_eq_true rfl) (by simp)
theorem s134_4  : wp 134 4 [l0, l1] [.inl x] h Q ↔ if x = 0 then wp 134 7 [l0, l1] [] h Q else wp 134 9 [l0, l1] [] h Q := w_ne0 dX9_takeOut_4 (by decide)
theorem s134_7  : wp 134 7 [l0, l1] [] h Q ↔ wp 134 8 [l0, l1] [.inl (-1)] h Q := w_const1 dX9_takeOut_7 k_m1
theorem s134_8  : wp 134 8 [l0, l1] [.inl x] h Q ↔ Q (some (.inl x)) h := w_reti dX9_takeOut_8 (e_ri (by decide +kernel))
theorem s134_9 (h0 : a ≠ 0) : wp 134 9 [.inr a, l1] [] h Q ↔ wp 134 10 [.inr a, l1] [.inr a] h Q := wp_step dX9_takeOut_9 (fun _ => if_neg h0)
theorem s134_10 (ha : tg a = 8) : wp 134 10 [l0, l1] [.inr a] (hp S D) Q ↔ wp 134 13 [l0, l1] [.inr (a + 1)] (hp S D) Q := w_getR dX9_takeOut_10 (t := 8) (j := 0) (c := 2) (by decide +kernel) (by decide) rfl (ln_ok (by decide) (by decide)) ha
theorem s134_13  : wp 134 13 [l0, .inl x] [v0] h Q ↔ wp 134 14 [l0, .inl x] [.inl x, v0] h Q := wp_step dX9_takeOut_13 (fun _ => rfl)
theorem s134_14  : wp 134 14 [l0, l1] [p1, p0] h Q ↔ wp 109 0 [p0, p1] [] h (kont 134 17 [l0, l1] [] Q) := w_callS (y2 := 109) (kd := 0) (vs := [p0, p1]) (st := []) dX9_takeOut_14 (by decide +kernel) (by decide) rfl (by decide +kernel) (Nat.le_of_ble_eq_true rfl) (by simp)
theorem s134_17  : wp 134 17 [l0, l1] [.inl x] h Q ↔ if x = 0 then wp 134 42 [l0, l1] [] h Q else wp 134 20 [l0, l1] [] h Q := w_eq0 dX9_takeOut_17 (by decide)
theorem s134_20 (h0 : a ≠ 0) : wp 134 20 [.inr a, l1] [] h Q ↔ wp 134 21 [.inr a, l1] [.inr a] h Q := wp_step dX9_takeOut_20 (fun _ => if_neg h0)
theorem s134_21 (ha : tg a = 8) : wp 134 21 [l0, l1] [.inr a] (hp S D) Q ↔ wp 134 24 [l0, l1] [.inr (a + 1)] (hp S D) Q := w_getR dX9_takeOut_21 (t := 8) (j := 0) (c := 2) (by decide +kernel) (by decide) rfl (ln_ok (by decide) (by decide)) ha
theorem s134_24  : wp 134 24 [l0, l1] [v0] h Q ↔ wp 134 26 [l0, l1] [.inl 10, v0] h Q := w_const2 dX9_takeOut_24 k_10 k8_10
theorem s134_26 (ha : tg a = 100) (h0 : 0 ≤ x) (h1 : x < ln S a) : wp 134 26 [l0, l1] [.inl x, .inr a] (hp S D) Q ↔ wp 134 27 [l0, l1] [.inl (rd S D a x.toNat)] (hp S D) Q := w_iald dX9_takeOut_26 ha h0 h1
theorem s134_27  : wp 134 27 [l0, l1] [v0] h Q ↔ wp 134 28 [l0, l1] [.inl 1, v0] h Q := w_const1 dX9_takeOut_27 k_1
theorem s134_28  : wp 134 28 [l0, l1] [.inl z, .inl x] h Q ↔ if x = z then wp 134 31 [l0, l1] [] h Q else wp 134 45 [l0, l1] [] h Q := w_cne dX9_takeOut_28 (by decide)
theorem s134_31  : wp 134 31 [l0, .inl x] [] h Q ↔ wp 134 32 [l0, .inl x] [.inl x] h Q := wp_step dX9_takeOut_31 (fun _ => rfl)
theorem s134_32 (h0 : a ≠ 0) : wp 134 32 [.inr a, l1] [v0] h Q ↔ wp 134 33 [.inr a, l1] [.inr a, v0] h Q := wp_step dX9_takeOut_32 (fun _ => if_neg h0)
theorem s134_33 (ha : tg a = 8) : wp 134 33 [l0, l1] [.inr a, v0] (hp S D) Q ↔ wp 134 36 [l0, l1] [.inr (a + 1), v0] (hp S D) Q := w_getR dX9_takeOut_33 (t := 8) (j := 0) (c := 2) (by decide +kernel) (by decide) rfl (ln_ok (by decide) (by decide)) ha
theorem s134_36  : wp 134 36 [l0, l1] [v0, v1] h Q ↔ wp 134 38 [l0, l1] [.inl 7, v0, v1] h Q := w_const2 dX9_takeOut_36 k_7 k8_7
theorem s134_38 (ha : tg a = 100) (h0 : 0 ≤ x) (h1 : x < ln S a) : wp 134 38 [l0, l1] [.inl x, .inr a, v0] (hp S D) Q ↔ wp 134 39 [l0, l1] [.inl (rd S D a x.toNat), v0] (hp S D) Q := w_iald dX9_takeOut_38 ha h0 h1
theorem s134_39  : wp 134 39 [l0, l1] [.inl z, .inl x] h Q ↔ if x = z then wp 134 42 [l0, l1] [] h Q else wp 134 45 [l0, l1] [] h Q := w_cne dX9_takeOut_39 (by decide)
theorem s134_42  : wp 134 42 [l0, l1] [] h Q ↔ wp 134 44 [l0, l1] [.inl (-4)] h Q := w_const2 dX9_takeOut_42 k_m4 k8_m4
theorem s134_44  : wp 134 44 [l0, l1] [.inl x] h Q ↔ Q (some (.inl x)) h := w_reti dX9_takeOut_44 (e_ri (by decide +kernel))
theorem s134_45 (h0 : a ≠ 0) : wp 134 45 [.inr a, l1] [] h Q ↔ wp 134 46 [.inr a, l1] [.inr a] h Q := wp_step dX9_takeOut_45 (fun _ => if_neg h0)
theorem s134_46 (ha : tg a = 8) : wp 134 46 [l0, l1] [.inr a] (hp S D) Q ↔ wp 102 0 [.inr a, .inr 0] [] (hp S D) (kont 134 49 [l0, l1] [] Q) := w_callV (y2 := 102) (vs := []) (st := []) dX9_takeOut_46 (by decide +kernel) rfl (by decide +kernel) (Nat.le_of_ble_eq_true rfl) (by simp) 8 rfl (by decide) ha
theorem s134_49 (h0 : a ≠ 0) : wp 134 49 [.inr a, l1] [] h Q ↔ wp 134 50 [.inr a, l1] [.inr a] h Q := wp_step dX9_takeOut_49 (fun _ => if_neg h0)
theorem s134_50 (ha : tg a = 8) : wp 134 50 [l0, l1] [.inr a] (hp S D) Q ↔ wp 134 53 [l0, l1] [.inr (a + 1)] (hp S D) Q := w_getR dX9_takeOut_50 (t := 8) (j := 0) (c := 2) (by decide +kernel) (by decide) rfl (ln_ok (by decide) (by decide)) ha
theorem s134_53  : wp 134 53 [l0, .inl x] [v0] h Q ↔ wp 134 54 [l0, .inl x] [.inl x, v0] h Q := wp_step dX9_takeOut_53 (fun _ => rfl)
theorem s134_54  : wp 134 54 [l0, l1] [p1, p0] h Q ↔ wp 108 0 [p0, p1] [] h (kont 134 57 [l0, l1] [] Q) := w_callS (y2 := 108) (kd := 0) (vs := [p0, p1]) (st := []) dX9_takeOut_54 (by decide +kernel) (by decide) rfl (by decide +kernel) (Nat.le_of_ble_eq_true rfl) (by simp)
theorem s134_57 (h0 : a ≠ 0) : wp 134 57 [.inr a, l1] [] h Q ↔ wp 134 58 [.inr a, l1] [.inr a] h Q := wp_step dX9_takeOut_57 (fun _ => if_neg h0)
theorem s134_58 (ha : tg a = 8) : wp 134 58 [l0, l1] [.inr a] (hp S D) Q ↔ wp 134 61 [l0, l1] [.inr (a + 1)] (hp S D) Q := w_getR dX9_takeOut_58 (t := 8) (j := 0) (c := 2) (by decide +kernel) (by decide) rfl (ln_ok (by decide) (by decide)) ha
theorem s134_61  : wp 134 61 [l0, .inl x] [v0] h Q ↔ wp 134 62 [l0, .inl x] [.inl x, v0] h Q := wp_step dX9_takeOut_61 (fun _ => rfl)
theorem s134_62  : wp 134 62 [l0, l1] [v0, v1] h Q ↔ wp 134 63 [l0, l1] [.inl 2, v0, v1] h Q := w_const1 dX9_takeOut_62 k_2
theorem s134_63  : wp 134 63 [l0, l1] [p2, p1, p0] h Q ↔ wp 106 0 [p0, p1, p2] [] h (kont 134 66 [l0, l1] [] Q) := w_callS (y2 := 106) (kd := 0) (vs := [p0, p1, p2]) (st := []) dX9_takeOut_63 (by decide +kernel) (by decide) rfl (by decide +kernel) (Nat.le_of_ble_eq_true rfl) (by simp)
theorem s134_66  : wp 134 66 [l0, l1] [.inl x] h Q ↔ Q (some (.inl x)) h := w_reti dX9_takeOut_66 (e_ri (by decide +kernel))
theorem s135_0  : wp 135 0 [l0, .inl x] [] h Q ↔ wp 135 1 [l0, .inl x] [.inl x] h Q := wp_step dX9_turnTo_0 (fun _ => rfl)
theorem s135_1  : wp 135 1 [l0, l1] [p0] h Q ↔ wp 100 0 [p0] [] h (kont 135 4 [l0, l1] [] Q) := w_callS (y2 := 100) (kd := 0) (vs := [p0]) (st := []) dX9_turnTo_1 (by decide +kernel) (by decide) rfl (by decide +kernel) (Nat.le_of_ble_eq_true rfl) (by simp)
theorem s135_4  : wp 135 4 [l0, l1] [.inl x] h Q ↔ if x = 0 then wp 135 7 [l0, l1] [] h Q else wp 135 9 [l0, l1] [] h Q := w_ne0 dX9_turnTo_4 (by decide)
theorem s135_7  : wp 135 7 [l0, l1] [] h Q ↔ wp 135 8 [l0, l1] [.inl (-1)] h Q := w_const1 dX9_turnTo_7 k_m1
theorem s135_8  : wp 135 8 [l0, l1] [.inl x] h Q ↔ Q (some (.inl x)) h := w_reti dX9_turnTo_8 (e_ri (by decide +kernel))
theorem s135_9 (h0 : a ≠ 0) : wp 135 9 [.inr a, l1] [] h Q ↔ wp 135 10 [.inr a, l1] [.inr a] h Q := wp_step dX9_turnTo_9 (fun _ => if_neg h0)
theorem s135_10 (ha : tg a = 8) : wp 135 10 [l0, l1] [.inr a] (hp S D) Q ↔ wp 135 13 [l0, l1] [.inr (a + 1)] (hp S D) Q := w_getR dX9_turnTo_10 (t := 8) (j := 0) (c := 2) (by decide +kernel) (by decide) rfl (ln_ok (by decide) (by decide)) ha
theorem s135_13  : wp 135 13 [l0, l1] [v0] h Q ↔ wp 135 15 [l0, l1] [.inl 8, v0] h Q := w_const2 dX9_turnTo_13 k_8 k8_8
theorem s135_15 (ha : tg a = 100) (h0 : 0 ≤ x) (h1 : x < ln S a) : wp 135 15 [l0, l1] [.inl x, .inr a] (hp S D) Q ↔ wp 135 16 [l0, l1] [.inl (rd S D a x.toNat)] (hp S D) Q := w_iald dX9_turnTo_15 ha h0 h1
theorem s135_16  : wp 135 16 [l0, l1] [v0] h Q ↔ wp 135 18 [l0, l1] [.inl (-5), v0] h Q := w_const2 dX9_turnTo_16 k_m5 k8_m5
theorem s135_18  : wp 135 18 [l0, l1] [.inl z, .inl x] h Q ↔ if x = z then wp 135 24 [l0, l1] [] h Q else wp 135 21 [l0, l1] [] h Q := w_ceq dX9_turnTo_18 (by decide)
theorem s135_21  : wp 135 21 [l0, l1] [] h Q ↔ wp 135 23 [l0, l1] [.inl (-4)] h Q := w_const2 dX9_turnTo_21 k_m4 k8_m4
theorem s135_23  : wp 135 23 [l0, l1] [.inl x] h Q ↔ Q (some (.inl x)) h := w_reti dX9_turnTo_23 (e_ri (by decide +kernel))
theorem s135_24  : wp 135 24 [l0, .inl x] [] h Q ↔ wp 135 25 [l0, .inl x] [.inl x] h Q := wp_step dX9_turnTo_24 (fun _ => rfl)
theorem s135_25 (h0 : a ≠ 0) : wp 135 25 [.inr a, l1] [v0] h Q ↔ wp 135 26 [.inr a, l1] [.inr a, v0] h Q := wp_step dX9_turnTo_25 (fun _ => if_neg h0)
theorem s135_26 (ha : tg a = 8) : wp 135 26 [l0, l1] [.inr a, v0] (hp S D) Q ↔ wp 135 29 [l0, l1] [.inr (a + 1), v0] (hp S D) Q := w_getR dX9_turnTo_26 (t := 8) (j := 0) (c := 2) (by decide +kernel) (by decide) rfl (ln_ok (by decide) (by decide)) ha
theorem s135_29  : wp 135 29 [l0, l1] [v0, v1] h Q ↔ wp 135 31 [l0, l1] [.inl 7, v0, v1] h Q := w_const2 dX9_turnTo_29 k_7 k8_7
theorem s135_31 (ha : tg a = 100) (h0 : 0 ≤ x) (h1 : x < ln S a) : wp 135 31 [l0, l1] [.inl x, .inr a, v0] (hp S D) Q ↔ wp 135 32 [l0, l1] [.inl (rd S D a x.toNat), v0] (hp S D) Q := w_iald dX9_turnTo_31 ha h0 h1
theorem s135_32  : wp 135 32 [l0, l1] [.inl z, .inl x] h Q ↔ if x = z then wp 135 35 [l0, l1] [] h Q else wp 135 38 [l0, l1] [] h Q := w_cne dX9_turnTo_32 (by decide)
theorem s135_35  : wp 135 35 [l0, l1] [] h Q ↔ wp 135 37 [l0, l1] [.inl (-5)] h Q := w_const2 dX9_turnTo_35 k_m5 k8_m5
theorem s135_37  : wp 135 37 [l0, l1] [.inl x] h Q ↔ Q (some (.inl x)) h := w_reti dX9_turnTo_37 (e_ri (by decide +kernel))
theorem s135_38 (h0 : a ≠ 0) : wp 135 38 [.inr a, l1] [] h Q ↔ wp 135 39 [.inr a, l1] [.inr a] h Q := wp_step dX9_turnTo_38 (fun _ => if_neg h0)
theorem s135_39 (ha : tg a = 8) : wp 135 39 [l0, l1] [.inr a] (hp S D) Q ↔ wp 102 0 [.inr a, .inr 0] [] (hp S D) (kont 135 42 [l0, l1] [] Q) := w_callV (y2 := 102) (vs := []) (st := []) dX9_turnTo_39 (by decide +kernel) rfl (by decide +kernel) (Nat.le_of_ble_eq_true rfl) (by simp) 8 rfl (by decide) ha
theorem s135_42 (h0 : a ≠ 0) : wp 135 42 [.inr a, l1] [] h Q ↔ wp 135 43 [.inr a, l1] [.inr a] h Q := wp_step dX9_turnTo_42 (fun _ => if_neg h0)
theorem s135_43 (ha : tg a = 8) : wp 135 43 [l0, l1] [.inr a] (hp S D) Q ↔ wp 135 46 [l0, l1] [.inr (a + 1)] (hp S D) Q := w_getR dX9_turnTo_43 (t := 8) (j := 0) (c := 2) (by decide +kernel) (by decide) rfl (ln_ok (by decide) (by decide)) ha
theorem s135_46  : wp 135 46 [l0, .inl x] [v0] h Q ↔ wp 135 47 [l0, .inl x] [.inl x, v0] h Q := wp_step dX9_turnTo_46 (fun _ => rfl)
theorem s135_47  : wp 135 47 [l0, l1] [p1, p0] h Q ↔ wp 121 0 [p0, p1] [] h (kont 135 50 [l0, l1] [] Q) := w_callS (y2 := 121) (kd := 0) (vs := [p0, p1]) (st := []) dX9_turnTo_47 (by decide +kernel) (by decide) rfl (by decide +kernel) (Nat.le_of_ble_eq_true rfl) (by simp)
theorem s135_50 (h0 : a ≠ 0) : wp 135 50 [.inr a, l1] [] h Q ↔ wp 135 51 [.inr a, l1] [.inr a] h Q := wp_step dX9_turnTo_50 (fun _ => if_neg h0)
theorem s135_51 (ha : tg a = 8) : wp 135 51 [l0, l1] [.inr a] (hp S D) Q ↔ wp 135 54 [l0, l1] [.inr (a + 1)] (hp S D) Q := w_getR dX9_turnTo_51 (t := 8) (j := 0) (c := 2) (by decide +kernel) (by decide) rfl (ln_ok (by decide) (by decide)) ha
theorem s135_54  : wp 135 54 [l0, l1] [v0] h Q ↔ wp 135 56 [l0, l1] [.inl 9, v0] h Q := w_const2 dX9_turnTo_54 k_9 k8_9
theorem s135_56 (ha : tg a = 100) (h0 : 0 ≤ x) (h1 : x < ln S a) : wp 135 56 [l0, l1] [.inl x, .inr a] (hp S D) Q ↔ wp 135 57 [l0, l1] [.inl (rd S D a x.toNat)] (hp S D) Q := w_iald dX9_turnTo_56 ha h0 h1
theorem s135_57  : wp 135 57 [l0, l1] [.inl x] h Q ↔ Q (some (.inl x)) h := w_reti dX9_turnTo_57 (e_ri (by decide +kernel))
theorem s136_0  : wp 136 0 [l0, .inl x, l2] [] h Q ↔ wp 136 1 [l0, .inl x, l2] [.inl x] h Q := wp_step dX9_stock_0 (fun _ => rfl)
theorem s136_1  : wp 136 1 [l0, l1, l2] [p0] h Q ↔ wp 132 0 [p0] [] h (kont 136 4 [l0, l1, l2] [] Q) := w_callS (y2 := 132) (kd := 0) (vs := [p0]) (st := []) dX9_stock_1 (by decide +kernel) (by decide) rfl (by decide +kernel) (Nat.le_of_ble_eq_true rfl) (by simp)
theorem s136_4  : wp 136 4 [l0, l1, l2] [.inl x] h Q ↔ if x = 0 then wp 136 17 [l0, l1, l2] [] h Q else wp 136 7 [l0, l1, l2] [] h Q := w_eq0 dX9_stock_4 (by decide)
theorem s136_7  : wp 136 7 [l0, l1, .inl x] [] h Q ↔ wp 136 8 [l0, l1, .inl x] [.inl x] h Q := wp_step dX9_stock_7 (fun _ => rfl)
theorem s136_8  : wp 136 8 [l0, l1, l2] [v0] h Q ↔ wp 136 9 [l0, l1, l2] [.inl 1, v0] h Q := w_const1 dX9_stock_8 k_1
theorem s136_9  : wp 136 9 [l0, l1, l2] [v0, v1] h Q ↔ wp 136 11 [l0, l1, l2] [.inl 6, v0, v1] h Q := w_const2 dX9_stock_9 k_6 k8_6
theorem s136_11  : wp 136 11 [l0, l1, l2] [p2, p1, p0] h Q ↔ wp 99 0 [p0, p1, p2] [] h (kont 136 14 [l0, l1, l2] [] Q) := w_callS (y2 := 99) (kd := 0) (vs := [p0, p1, p2]) (st := []) dX9_stock_11 (by decide +kernel) (by decide) rfl (by decide +kernel) (Nat.le_of_ble_eq_true rfl) (by simp)
theorem s136_14  : wp 136 14 [l0, l1, l2] [.inl x] h Q ↔ if x = 0 then wp 136 17 [l0, l1, l2] [] h Q else wp 136 20 [l0, l1, l2] [] h Q := w_ne0 dX9_stock_14 (by decide)
theorem s136_17  : wp 136 17 [l0, l1, l2] [] h Q ↔ wp 136 19 [l0, l1, l2] [.inl (-2)] h Q := w_const2 dX9_stock_17 k_m2 k8_m2
theorem s136_19  : wp 136 19 [l0, l1, l2] [.inl x] h Q ↔ Q (some (.inl x)) h := w_reti dX9_stock_19 (e_ri (by decide +kernel))
theorem s136_20 (h0 : a ≠ 0) : wp 136 20 [.inr a, l1, l2] [] h Q ↔ wp 136 21 [.inr a, l1, l2] [.inr a] h Q := wp_step dX9_stock_20 (fun _ => if_neg h0)
theorem s136_21 (ha : tg a = 8) : wp 136 21 [l0, l1, l2] [.inr a] (hp S D) Q ↔ wp 136 24 [l0, l1, l2] [.inr (a + 1)] (hp S D) Q := w_getR dX9_stock_21 (t := 8) (j := 0) (c := 2) (by decide +kernel) (by decide) rfl (ln_ok (by decide) (by decide)) ha
theorem s136_24  : wp 136 24 [l0, l1, l2] [v0] h Q ↔ wp 136 26 [l0, l1, l2] [.inl 41, v0] h Q := w_const2 dX9_stock_24 k_41 k8_41
theorem s136_26  : wp 136 26 [l0, .inl x, l2] [v0, v1] h Q ↔ wp 136 27 [l0, .inl x, l2] [.inl x, v0, v1] h Q := wp_step dX9_stock_26 (fun _ => rfl)
theorem s136_27  : wp 136 27 [l0, l1, l2] [.inl z, .inl x, v0] h Q ↔ wp 136 28 [l0, l1, l2] [.inl (w32 (x + z)), v0] h Q := wp_step dX9_stock_27 (fun _ => rfl)
theorem s136_28 (ha : tg a = 100) (h0 : 0 ≤ x) (h1 : x < ln S a) : wp 136 28 [l0, l1, l2] [.inl x, .inr a] (hp S D) Q ↔ wp 136 29 [l0, l1, l2] [.inl (rd S D a x.toNat)] (hp S D) Q := w_iald dX9_stock_28 ha h0 h1
theorem s136_29  : wp 136 29 [l0, l1, .inl x] [v0] h Q ↔ wp 136 30 [l0, l1, .inl x] [.inl x, v0] h Q := wp_step dX9_stock_29 (fun _ => rfl)
theorem s136_30  : wp 136 30 [l0, l1, l2] [.inl z, .inl x] h Q ↔ wp 136 31 [l0, l1, l2] [.inl (w32 (x + z))] h Q := wp_step dX9_stock_30 (fun _ => rfl)
theorem s136_31  : wp 136 31 [l0, l1, l2] [v0] h Q ↔ wp 136 33 [l0, l1, l2] [.inl 99, v0] h Q := w_const2 dX9_stock_31 k_99 k8_99
theorem s136_33  : wp 136 33 [l0, l1, l2] [.inl z, .inl x] h Q ↔ if z < x then wp 136 36 [l0, l1, l2] [] h Q else wp 136 39 [l0, l1, l2] [] h Q := w_cle dX9_stock_33 (by decide)
theorem s136_36  : wp 136 36 [l0, l1, l2] [] h Q ↔ wp 136 38 [l0, l1, l2] [.inl (-3)] h Q := w_const2 dX9_stock_36 k_m3 k8_m3
theorem s136_38  : wp 136 38 [l0, l1, l2] [.inl x] h Q ↔ Q (some (.inl x)) h := w_reti dX9_stock_38 (e_ri (by decide +kernel))
theorem s136_39 (h0 : a ≠ 0) : wp 136 39 [.inr a, l1, l2] [] h Q ↔ wp 136 40 [.inr a, l1, l2] [.inr a] h Q := wp_step dX9_stock_39 (fun _ => if_neg h0)
theorem s136_40 (ha : tg a = 8) : wp 136 40 [l0, l1, l2] [.inr a] (hp S D) Q ↔ wp 102 0 [.inr a, .inr 0] [] (hp S D) (kont 136 43 [l0, l1, l2] [] Q) := w_callV (y2 := 102) (vs := []) (st := []) dX9_stock_40 (by decide +kernel) rfl (by decide +kernel) (Nat.le_of_ble_eq_true rfl) (by simp) 8 rfl (by decide) ha
theorem s136_43 (h0 : a ≠ 0) : wp 136 43 [.inr a, l1, l2] [] h Q ↔ wp 136 44 [.inr a, l1, l2] [.inr a] h Q := wp_step dX9_stock_43 (fun _ => if_neg h0)
theorem s136_44 (ha : tg a = 8) : wp 136 44 [l0, l1, l2] [.inr a] (hp S D) Q ↔ wp 136 47 [l0, l1, l2] [.inr (a + 1)] (hp S D) Q := w_getR dX9_stock_44 (t := 8) (j := 0) (c := 2) (by decide +kernel) (by decide) rfl (ln_ok (by decide) (by decide)) ha
theorem s136_47  : wp 136 47 [l0, l1, l2] [v0] h Q ↔ wp 136 49 [l0, l1, l2] [.inl 41, v0] h Q := w_const2 dX9_stock_47 k_41 k8_41
theorem s136_49  : wp 136 49 [l0, .inl x, l2] [v0, v1] h Q ↔ wp 136 50 [l0, .inl x, l2] [.inl x, v0, v1] h Q := wp_step dX9_stock_49 (fun _ => rfl)
theorem s136_50  : wp 136 50 [l0, l1, l2] [.inl z, .inl x, v0] h Q ↔ wp 136 51 [l0, l1, l2] [.inl (w32 (x + z)), v0] h Q := wp_step dX9_stock_50 (fun _ => rfl)
theorem s136_51  : wp 136 51 [l0, l1, l2] [p, q] h Q ↔ wp 136 52 [l0, l1, l2] [p, q, p, q] h Q := wp_step dX9_stock_51 (fun _ => rfl)
theorem s136_52 (ha : tg a = 100) (h0 : 0 ≤ x) (h1 : x < ln S a) : wp 136 52 [l0, l1, l2] [.inl x, .inr a, v0, v1] (hp S D) Q ↔ wp 136 53 [l0, l1, l2] [.inl (rd S D a x.toNat), v0, v1] (hp S D) Q := w_iald dX9_stock_52 ha h0 h1
theorem s136_53  : wp 136 53 [l0, l1, .inl x] [v0, v1, v2] h Q ↔ wp 136 54 [l0, l1, .inl x] [.inl x, v0, v1, v2] h Q := wp_step dX9_stock_53 (fun _ => rfl)
theorem s136_54  : wp 136 54 [l0, l1, l2] [.inl z, .inl x, v0, v1] h Q ↔ wp 136 55 [l0, l1, l2] [.inl (w32 (x + z)), v0, v1] h Q := wp_step dX9_stock_54 (fun _ => rfl)
theorem s136_55 (ha : tg a = 100) (h8 : 8 ≤ a) (h0 : 0 ≤ x) (h1 : x < ln S a) : wp 136 55 [l0, l1, l2] [.inl z, .inl x, .inr a] (hp S D) Q ↔ wp 136 56 [l0, l1, l2] [] (hp S (up D a x.toNat z)) Q := w_iast dX9_stock_55 ha h8 h0 h1
theorem s136_56 (h0 : a ≠ 0) : wp 136 56 [.inr a, l1, l2] [] h Q ↔ wp 136 57 [.inr a, l1, l2] [.inr a] h Q := wp_step dX9_stock_56 (fun _ => if_neg h0)
theorem s136_57 (ha : tg a = 8) : wp 136 57 [l0, l1, l2] [.inr a] (hp S D) Q ↔ wp 136 60 [l0, l1, l2] [.inr (a + 1)] (hp S D) Q := w_getR dX9_stock_57 (t := 8) (j := 0) (c := 2) (by decide +kernel) (by decide) rfl (ln_ok (by decide) (by decide)) ha
theorem s136_60  : wp 136 60 [l0, l1, l2] [v0] h Q ↔ wp 136 62 [l0, l1, l2] [.inl 41, v0] h Q := w_const2 dX9_stock_60 k_41 k8_41
theorem s136_62  : wp 136 62 [l0, .inl x, l2] [v0, v1] h Q ↔ wp 136 63 [l0, .inl x, l2] [.inl x, v0, v1] h Q := wp_step dX9_stock_62 (fun _ => rfl)
theorem s136_63  : wp 136 63 [l0, l1, l2] [.inl z, .inl x, v0] h Q ↔ wp 136 64 [l0, l1, l2] [.inl (w32 (x + z)), v0] h Q := wp_step dX9_stock_63 (fun _ => rfl)
theorem s136_64 (ha : tg a = 100) (h0 : 0 ≤ x) (h1 : x < ln S a) : wp 136 64 [l0, l1, l2] [.inl x, .inr a] (hp S D) Q ↔ wp 136 65 [l0, l1, l2] [.inl (rd S D a x.toNat)] (hp S D) Q := w_iald dX9_stock_64 ha h0 h1
theorem s136_65  : wp 136 65 [l0, l1, l2] [.inl x] h Q ↔ Q (some (.inl x)) h := w_reti dX9_stock_65 (e_ri (by decide +kernel))
theorem s137_0  : wp 137 0 [l0, l1, l2] [] h Q ↔ wp 137 1 [l0, l1, l2] [.inl 0] h Q := w_const1 dX9_placeOf_0 k_0
theorem s137_1  : wp 137 1 [l0, l1, l2] [.inl x] h Q ↔ wp 137 2 [l0, l1, .inl x] [] h Q := wp_step dX9_placeOf_1 (fun _ => rfl)
theorem s137_2  : wp 137 2 [l0, l1, .inl x] [] h Q ↔ wp 137 3 [l0, l1, .inl x] [.inl x] h Q := wp_step dX9_placeOf_2 (fun _ => rfl)
theorem s137_3 (h0 : a ≠ 0) : wp 137 3 [.inr a, l1, l2] [v0] h Q ↔ wp 137 4 [.inr a, l1, l2] [.inr a, v0] h Q := wp_step dX9_placeOf_3 (fun _ => if_neg h0)
theorem s137_4 (ha : tg a = 8) : wp 137 4 [l0, l1, l2] [.inr a, v0] (hp S D) Q ↔ wp 137 7 [l0, l1, l2] [.inr (a + 1), v0] (hp S D) Q := w_getR dX9_placeOf_4 (t := 8) (j := 0) (c := 2) (by decide +kernel) (by decide) rfl (ln_ok (by decide) (by decide)) ha
theorem s137_7  : wp 137 7 [l0, l1, l2] [v0, v1] h Q ↔ wp 137 9 [l0, l1, l2] [.inl 49, v0, v1] h Q := w_const2 dX9_placeOf_7 k_49 k8_49
theorem s137_9 (ha : tg a = 100) (h0 : 0 ≤ x) (h1 : x < ln S a) : wp 137 9 [l0, l1, l2] [.inl x, .inr a, v0] (hp S D) Q ↔ wp 137 10 [l0, l1, l2] [.inl (rd S D a x.toNat), v0] (hp S D) Q := w_iald dX9_placeOf_9 ha h0 h1
theorem s137_10  : wp 137 10 [l0, l1, l2] [.inl z, .inl x] h Q ↔ if x < z then wp 137 13 [l0, l1, l2] [] h Q else wp 137 34 [l0, l1, l2] [] h Q := w_cge dX9_placeOf_10 (by decide)
theorem s137_13 (h0 : a ≠ 0) : wp 137 13 [.inr a, l1, l2] [] h Q ↔ wp 137 14 [.inr a, l1, l2] [.inr a] h Q := wp_step dX9_placeOf_13 (fun _ => if_neg h0)
theorem s137_14 (ha : tg a = 8) : wp 137 14 [l0, l1, l2] [.inr a] (hp S D) Q ↔ wp 137 17 [l0, l1, l2] [.inr (a + 1)] (hp S D) Q := w_getR dX9_placeOf_14 (t := 8) (j := 0) (c := 2) (by decide +kernel) (by decide) rfl (ln_ok (by decide) (by decide)) ha
theorem s137_17  : wp 137 17 [l0, l1, l2] [v0] h Q ↔ wp 137 19 [l0, l1, l2] [.inl 50, v0] h Q := w_const2 dX9_placeOf_17 k_50 k8_50
theorem s137_19  : wp 137 19 [l0, l1, l2] [v0, v1] h Q ↔ wp 137 20 [l0, l1, l2] [.inl 3, v0, v1] h Q := w_const1 dX9_placeOf_19 k_3
theorem s137_20  : wp 137 20 [l0, l1, .inl x] [v0, v1, v2] h Q ↔ wp 137 21 [l0, l1, .inl x] [.inl x, v0, v1, v2] h Q := wp_step dX9_placeOf_20 (fun _ => rfl)
theorem s137_21  : wp 137 21 [l0, l1, l2] [.inl z, .inl x, v0, v1] h Q ↔ wp 137 22 [l0, l1, l2] [.inl (w32 (x * z)), v0, v1] h Q := wp_step dX9_placeOf_21 (fun _ => rfl)
theorem s137_22  : wp 137 22 [l0, l1, l2] [.inl z, .inl x, v0] h Q ↔ wp 137 23 [l0, l1, l2] [.inl (w32 (x + z)), v0] h Q := wp_step dX9_placeOf_22 (fun _ => rfl)
theorem s137_23 (ha : tg a = 100) (h0 : 0 ≤ x) (h1 : x < ln S a) : wp 137 23 [l0, l1, l2] [.inl x, .inr a] (hp S D) Q ↔ wp 137 24 [l0, l1, l2] [.inl (rd S D a x.toNat)] (hp S D) Q := w_iald dX9_placeOf_23 ha h0 h1
theorem s137_24  : wp 137 24 [l0, .inl x, l2] [v0] h Q ↔ wp 137 25 [l0, .inl x, l2] [.inl x, v0] h Q := wp_step dX9_placeOf_24 (fun _ => rfl)
theorem s137_25  : wp 137 25 [l0, l1, l2] [.inl z, .inl x] h Q ↔ if x < z then wp 137 28 [l0, l1, l2] [] h Q else wp 137 34 [l0, l1, l2] [] h Q := w_cge dX9_placeOf_25 (by decide)
theorem s137_28  : wp 137 28 [l0, l1, .inl x] [] h Q ↔ wp 137 31 [l0, l1, .inl (w32 (x + 1))] [] h Q := wp_step dX9_placeOf_28 (fun _ => rfl)
theorem s137_31  : wp 137 31 [l0, l1, l2] [] h Q ↔ wp 137 2 [l0, l1, l2] [] h Q := w_goto dX9_placeOf_31 (by decide)
theorem s137_34  : wp 137 34 [l0, l1, .inl x] [] h Q ↔ wp 137 35 [l0, l1, .inl x] [.inl x] h Q := wp_step dX9_placeOf_34 (fun _ => rfl)
theorem s137_35  : wp 137 35 [l0, l1, l2] [.inl x] h Q ↔ Q (some (.inl x)) h := w_reti dX9_placeOf_35 (e_ri (by decide +kernel))
theorem s138_0 (h0 : a ≠ 0) : wp 138 0 [.inr a, l1, l2] [] h Q ↔ wp 138 1 [.inr a, l1, l2] [.inr a] h Q := wp_step dX9_isPlanned_0 (fun _ => if_neg h0)
theorem s138_1  : wp 138 1 [l0, .inl x, l2] [v0] h Q ↔ wp 138 2 [l0, .inl x, l2] [.inl x, v0] h Q := wp_step dX9_isPlanned_1 (fun _ => rfl)
theorem s138_2 (ha : tg a = 8) : wp 138 2 [l0, l1, l2] [p0, .inr a] (hp S D) Q ↔ wp 137 0 [.inr a, p0, .inr 0] [] (hp S D) (kont 138 5 [l0, l1, l2] [] Q) := w_callV (y2 := 137) (vs := [p0]) (st := []) dX9_isPlanned_2 (by decide +kernel) rfl (by decide +kernel) (Nat.le_of_ble_eq_true rfl) (by simp) 8 rfl (by decide) ha
theorem s138_5  : wp 138 5 [l0, l1, l2] [.inl x] h Q ↔ wp 138 6 [l0, l1, .inl x] [] h Q := wp_step dX9_isPlanned_5 (fun _ => rfl)
theorem s138_6  : wp 138 6 [l0, l1, .inl x] [] h Q ↔ wp 138 7 [l0, l1, .inl x] [.inl x] h Q := wp_step dX9_isPlanned_6 (fun _ => rfl)
theorem s138_7 (h0 : a ≠ 0) : wp 138 7 [.inr a, l1, l2] [v0] h Q ↔ wp 138 8 [.inr a, l1, l2] [.inr a, v0] h Q := wp_step dX9_isPlanned_7 (fun _ => if_neg h0)
theorem s138_8 (ha : tg a = 8) : wp 138 8 [l0, l1, l2] [.inr a, v0] (hp S D) Q ↔ wp 138 11 [l0, l1, l2] [.inr (a + 1), v0] (hp S D) Q := w_getR dX9_isPlanned_8 (t := 8) (j := 0) (c := 2) (by decide +kernel) (by decide) rfl (ln_ok (by decide) (by decide)) ha
theorem s138_11  : wp 138 11 [l0, l1, l2] [v0, v1] h Q ↔ wp 138 13 [l0, l1, l2] [.inl 49, v0, v1] h Q := w_const2 dX9_isPlanned_11 k_49 k8_49
theorem s138_13 (ha : tg a = 100) (h0 : 0 ≤ x) (h1 : x < ln S a) : wp 138 13 [l0, l1, l2] [.inl x, .inr a, v0] (hp S D) Q ↔ wp 138 14 [l0, l1, l2] [.inl (rd S D a x.toNat), v0] (hp S D) Q := w_iald dX9_isPlanned_13 ha h0 h1
theorem s138_14  : wp 138 14 [l0, l1, l2] [.inl z, .inl x] h Q ↔ if x < z then wp 138 17 [l0, l1, l2] [] h Q else wp 138 36 [l0, l1, l2] [] h Q := w_cge dX9_isPlanned_14 (by decide)
theorem s138_17 (h0 : a ≠ 0) : wp 138 17 [.inr a, l1, l2] [] h Q ↔ wp 138 18 [.inr a, l1, l2] [.inr a] h Q := wp_step dX9_isPlanned_17 (fun _ => if_neg h0)
theorem s138_18 (ha : tg a = 8) : wp 138 18 [l0, l1, l2] [.inr a] (hp S D) Q ↔ wp 138 21 [l0, l1, l2] [.inr (a + 1)] (hp S D) Q := w_getR dX9_isPlanned_18 (t := 8) (j := 0) (c := 2) (by decide +kernel) (by decide) rfl (ln_ok (by decide) (by decide)) ha
theorem s138_21  : wp 138 21 [l0, l1, l2] [v0] h Q ↔ wp 138 23 [l0, l1, l2] [.inl 50, v0] h Q := w_const2 dX9_isPlanned_21 k_50 k8_50
theorem s138_23  : wp 138 23 [l0, l1, l2] [v0, v1] h Q ↔ wp 138 24 [l0, l1, l2] [.inl 3, v0, v1] h Q := w_const1 dX9_isPlanned_23 k_3
theorem s138_24  : wp 138 24 [l0, l1, .inl x] [v0, v1, v2] h Q ↔ wp 138 25 [l0, l1, .inl x] [.inl x, v0, v1, v2] h Q := wp_step dX9_isPlanned_24 (fun _ => rfl)
theorem s138_25  : wp 138 25 [l0, l1, l2] [.inl z, .inl x, v0, v1] h Q ↔ wp 138 26 [l0, l1, l2] [.inl (w32 (x * z)), v0, v1] h Q := wp_step dX9_isPlanned_25 (fun _ => rfl)
theorem s138_26  : wp 138 26 [l0, l1, l2] [.inl z, .inl x, v0] h Q ↔ wp 138 27 [l0, l1, l2] [.inl (w32 (x + z)), v0] h Q := wp_step dX9_isPlanned_26 (fun _ => rfl)
theorem s138_27 (ha : tg a = 100) (h0 : 0 ≤ x) (h1 : x < ln S a) : wp 138 27 [l0, l1, l2] [.inl x, .inr a] (hp S D) Q ↔ wp 138 28 [l0, l1, l2] [.inl (rd S D a x.toNat)] (hp S D) Q := w_iald dX9_isPlanned_27 ha h0 h1
theorem s138_28  : wp 138 28 [l0, .inl x, l2] [v0] h Q ↔ wp 138 29 [l0, .inl x, l2] [.inl x, v0] h Q := wp_step dX9_isPlanned_28 (fun _ => rfl)
theorem s138_29  : wp 138 29 [l0, l1, l2] [.inl z, .inl x] h Q ↔ if x = z then wp 138 32 [l0, l1, l2] [] h Q else wp 138 36 [l0, l1, l2] [] h Q := w_cne dX9_isPlanned_29 (by decide)
theorem s138_32  : wp 138 32 [l0, l1, l2] [] h Q ↔ wp 138 33 [l0, l1, l2] [.inl 1] h Q := w_const1 dX9_isPlanned_32 k_1
theorem s138_33  : wp 138 33 [l0, l1, l2] [v0] h Q ↔ wp 138 37 [l0, l1, l2] [v0] h Q := w_goto dX9_isPlanned_33 (by decide)
theorem s138_36  : wp 138 36 [l0, l1, l2] [] h Q ↔ wp 138 37 [l0, l1, l2] [.inl 0] h Q := w_const1 dX9_isPlanned_36 k_0
theorem s138_37 (h0 : x = 0 ∨ x = 1) : wp 138 37 [l0, l1, l2] [.inl x] h Q ↔ Q (some (.inl x)) h := w_reti dX9_isPlanned_37 (e_rz (by decide +kernel) h0)
theorem s139_0  : wp 139 0 [l0, l1, l2, l3, l4, l5] [] h Q ↔ wp 139 2 [l0, l1, l2, l3, l4, l5] [.inl 50] h Q := w_const2 dX9_plans_0 k_50 k8_50
theorem s139_2  : wp 139 2 [l0, l1, l2, l3, l4, l5] [v0] h Q ↔ wp 139 3 [l0, l1, l2, l3, l4, l5] [.inl 3, v0] h Q := w_const1 dX9_plans_2 k_3
theorem s139_3 (h0 : a ≠ 0) : wp 139 3 [.inr a, l1, l2, l3, l4, l5] [v0, v1] h Q ↔ wp 139 4 [.inr a, l1, l2, l3, l4, l5] [.inr a, v0, v1] h Q := wp_step dX9_plans_3 (fun _ => if_neg h0)
theorem s139_4  : wp 139 4 [l0, .inl x, l2, l3, l4, l5] [v0, v1, v2] h Q ↔ wp 139 5 [l0, .inl x, l2, l3, l4, l5] [.inl x, v0, v1, v2] h Q := wp_step dX9_plans_4 (fun _ => rfl)
theorem s139_5 (ha : tg a = 8) : wp 139 5 [l0, l1, l2, l3, l4, l5] [p0, .inr a, v0, v1] (hp S D) Q ↔ wp 137 0 [.inr a, p0, .inr 0] [] (hp S D) (kont 139 8 [l0, l1, l2, l3, l4, l5] [v0, v1] Q) := w_callV (y2 := 137) (vs := [p0]) (st := [v0, v1]) dX9_plans_5 (by decide +kernel) rfl (by decide +kernel) (Nat.le_of_ble_eq_true rfl) (by simp) 8 rfl (by decide) ha
theorem s139_8  : wp 139 8 [l0, l1, l2, l3, l4, l5] [.inl z, .inl x, v0] h Q ↔ wp 139 9 [l0, l1, l2, l3, l4, l5] [.inl (w32 (x * z)), v0] h Q := wp_step dX9_plans_8 (fun _ => rfl)
theorem s139_9  : wp 139 9 [l0, l1, l2, l3, l4, l5] [.inl z, .inl x] h Q ↔ wp 139 10 [l0, l1, l2, l3, l4, l5] [.inl (w32 (x + z))] h Q := wp_step dX9_plans_9 (fun _ => rfl)
theorem s139_10  : wp 139 10 [l0, l1, l2, l3, l4, l5] [.inl x] h Q ↔ wp 139 12 [l0, l1, l2, l3, .inl x, l5] [] h Q := wp_step dX9_plans_10 (fun _ => rfl)
theorem s139_12 (h0 : a ≠ 0) : wp 139 12 [.inr a, l1, l2, l3, l4, l5] [] h Q ↔ wp 139 13 [.inr a, l1, l2, l3, l4, l5] [.inr a] h Q := wp_step dX9_plans_12 (fun _ => if_neg h0)
theorem s139_13  : wp 139 13 [l0, .inl x, l2, l3, l4, l5] [v0] h Q ↔ wp 139 14 [l0, .inl x, l2, l3, l4, l5] [.inl x, v0] h Q := wp_step dX9_plans_13 (fun _ => rfl)
theorem s139_14 (ha : tg a = 8) : wp 139 14 [l0, l1, l2, l3, l4, l5] [p0, .inr a] (hp S D) Q ↔ wp 138 0 [.inr a, p0, .inr 0] [] (hp S D) (kont 139 17 [l0, l1, l2, l3, l4, l5] [] Q) := w_callV (y2 := 138) (vs := [p0]) (st := []) dX9_plans_14 (by decide +kernel) rfl (by decide +kernel) (Nat.le_of_ble_eq_true rfl) (by simp) 8 rfl (by decide) ha
theorem s139_17  : wp 139 17 [l0, l1, l2, l3, l4, l5] [.inl x] h Q ↔ if x = 0 then wp 139 20 [l0, l1, l2, l3, l4, l5] [] h Q else wp 139 76 [l0, l1, l2, l3, l4, l5] [] h Q := w_ne0 dX9_plans_17 (by decide)
theorem s139_20  : wp 139 20 [l0, l1, l2, l3, l4, l5] [] h Q ↔ wp 139 22 [l0, l1, l2, l3, l4, l5] [.inl 50] h Q := w_const2 dX9_plans_20 k_50 k8_50
theorem s139_22  : wp 139 22 [l0, l1, l2, l3, l4, l5] [v0] h Q ↔ wp 139 23 [l0, l1, l2, l3, l4, l5] [.inl 3, v0] h Q := w_const1 dX9_plans_22 k_3
theorem s139_23 (h0 : a ≠ 0) : wp 139 23 [.inr a, l1, l2, l3, l4, l5] [v0, v1] h Q ↔ wp 139 24 [.inr a, l1, l2, l3, l4, l5] [.inr a, v0, v1] h Q := wp_step dX9_plans_23 (fun _ => if_neg h0)
theorem s139_24 (ha : tg a = 8) : wp 139 24 [l0, l1, l2, l3, l4, l5] [.inr a, v0, v1] (hp S D) Q ↔ wp 139 27 [l0, l1, l2, l3, l4, l5] [.inr (a + 1), v0, v1] (hp S D) Q := w_getR dX9_plans_24 (t := 8) (j := 0) (c := 2) (by decide +kernel) (by decide) rfl (ln_ok (by decide) (by decide)) ha
theorem s139_27  : wp 139 27 [l0, l1, l2, l3, l4, l5] [v0, v1, v2] h Q ↔ wp 139 29 [l0, l1, l2, l3, l4, l5] [.inl 49, v0, v1, v2] h Q := w_const2 dX9_plans_27 k_49 k8_49
theorem s139_29 (ha : tg a = 100) (h0 : 0 ≤ x) (h1 : x < ln S a) : wp 139 29 [l0, l1, l2, l3, l4, l5] [.inl x, .inr a, v0, v1] (hp S D) Q ↔ wp 139 30 [l0, l1, l2, l3, l4, l5] [.inl (rd S D a x.toNat), v0, v1] (hp S D) Q := w_iald dX9_plans_29 ha h0 h1
theorem s139_30  : wp 139 30 [l0, l1, l2, l3, l4, l5] [.inl z, .inl x, v0] h Q ↔ wp 139 31 [l0, l1, l2, l3, l4, l5] [.inl (w32 (x * z)), v0] h Q := wp_step dX9_plans_30 (fun _ => rfl)
theorem s139_31  : wp 139 31 [l0, l1, l2, l3, l4, l5] [.inl z, .inl x] h Q ↔ wp 139 32 [l0, l1, l2, l3, l4, l5] [.inl (w32 (x + z))] h Q := wp_step dX9_plans_31 (fun _ => rfl)
theorem s139_32  : wp 139 32 [l0, l1, l2, l3, l4, l5] [v0] h Q ↔ wp 139 33 [l0, l1, l2, l3, l4, l5] [.inl 1, v0] h Q := w_const1 dX9_plans_32 k_1
theorem s139_33  : wp 139 33 [l0, l1, l2, l3, l4, l5] [.inl z, .inl x] h Q ↔ wp 139 34 [l0, l1, l2, l3, l4, l5] [.inl (w32 (x - z))] h Q := wp_step dX9_plans_33 (fun _ => rfl)
theorem s139_34  : wp 139 34 [l0, l1, l2, l3, l4, l5] [.inl x] h Q ↔ wp 139 36 [l0, l1, l2, l3, l4, .inl x] [] h Q := wp_step dX9_plans_34 (fun _ => rfl)
theorem s139_36  : wp 139 36 [l0, l1, l2, l3, l4, .inl x] [] h Q ↔ wp 139 38 [l0, l1, l2, l3, l4, .inl x] [.inl x] h Q := wp_step dX9_plans_36 (fun _ => rfl)
theorem s139_38  : wp 139 38 [l0, l1, l2, l3, .inl x, l5] [v0] h Q ↔ wp 139 40 [l0, l1, l2, l3, .inl x, l5] [.inl x, v0] h Q := wp_step dX9_plans_38 (fun _ => rfl)
theorem s139_40  : wp 139 40 [l0, l1, l2, l3, l4, l5] [.inl z, .inl x] h Q ↔ if x < z then wp 139 65 [l0, l1, l2, l3, l4, l5] [] h Q else wp 139 43 [l0, l1, l2, l3, l4, l5] [] h Q := w_clt dX9_plans_40 (by decide)
theorem s139_43 (h0 : a ≠ 0) : wp 139 43 [.inr a, l1, l2, l3, l4, l5] [] h Q ↔ wp 139 44 [.inr a, l1, l2, l3, l4, l5] [.inr a] h Q := wp_step dX9_plans_43 (fun _ => if_neg h0)
theorem s139_44 (ha : tg a = 8) : wp 139 44 [l0, l1, l2, l3, l4, l5] [.inr a] (hp S D) Q ↔ wp 139 47 [l0, l1, l2, l3, l4, l5] [.inr (a + 1)] (hp S D) Q := w_getR dX9_plans_44 (t := 8) (j := 0) (c := 2) (by decide +kernel) (by decide) rfl (ln_ok (by decide) (by decide)) ha
theorem s139_47  : wp 139 47 [l0, l1, l2, l3, l4, .inl x] [v0] h Q ↔ wp 139 49 [l0, l1, l2, l3, l4, .inl x] [.inl x, v0] h Q := wp_step dX9_plans_47 (fun _ => rfl)
theorem s139_49  : wp 139 49 [l0, l1, l2, l3, l4, l5] [v0, v1] h Q ↔ wp 139 50 [l0, l1, l2, l3, l4, l5] [.inl 3, v0, v1] h Q := w_const1 dX9_plans_49 k_3
theorem s139_50  : wp 139 50 [l0, l1, l2, l3, l4, l5] [.inl z, .inl x, v0] h Q ↔ wp 139 51 [l0, l1, l2, l3, l4, l5] [.inl (w32 (x + z)), v0] h Q := wp_step dX9_plans_50 (fun _ => rfl)
theorem s139_51 (h0 : a ≠ 0) : wp 139 51 [.inr a, l1, l2, l3, l4, l5] [v0, v1] h Q ↔ wp 139 52 [.inr a, l1, l2, l3, l4, l5] [.inr a, v0, v1] h Q := wp_step dX9_plans_51 (fun _ => if_neg h0)
theorem s139_52 (ha : tg a = 8) : wp 139 52 [l0, l1, l2, l3, l4, l5] [.inr a, v0, v1] (hp S D) Q ↔ wp 139 55 [l0, l1, l2, l3, l4, l5] [.inr (a + 1), v0, v1] (hp S D) Q := w_getR dX9_plans_52 (t := 8) (j := 0) (c := 2) (by decide +kernel) (by decide) rfl (ln_ok (by decide) (by decide)) ha
theorem s139_55  : wp 139 55 [l0, l1, l2, l3, l4, .inl x] [v0, v1, v2] h Q ↔ wp 139 57 [l0, l1, l2, l3, l4, .inl x] [.inl x, v0, v1, v2] h Q := wp_step dX9_plans_55 (fun _ => rfl)
theorem s139_57 (ha : tg a = 100) (h0 : 0 ≤ x) (h1 : x < ln S a) : wp 139 57 [l0, l1, l2, l3, l4, l5] [.inl x, .inr a, v0, v1] (hp S D) Q ↔ wp 139 58 [l0, l1, l2, l3, l4, l5] [.inl (rd S D a x.toNat), v0, v1] (hp S D) Q := w_iald dX9_plans_57 ha h0 h1
theorem s139_58 (ha : tg a = 100) (h8 : 8 ≤ a) (h0 : 0 ≤ x) (h1 : x < ln S a) : wp 139 58 [l0, l1, l2, l3, l4, l5] [.inl z, .inl x, .inr a] (hp S D) Q ↔ wp 139 59 [l0, l1, l2, l3, l4, l5] [] (hp S (up D a x.toNat z)) Q := w_iast dX9_plans_58 ha h8 h0 h1
theorem s139_59  : wp 139 59 [l0, l1, l2, l3, l4, .inl x] [] h Q ↔ wp 139 62 [l0, l1, l2, l3, l4, .inl (w32 (x + (-1)))] [] h Q := wp_step dX9_plans_59 (fun _ => rfl)
theorem s139_62  : wp 139 62 [l0, l1, l2, l3, l4, l5] [] h Q ↔ wp 139 36 [l0, l1, l2, l3, l4, l5] [] h Q := w_goto dX9_plans_62 (by decide)
theorem s139_65 (h0 : a ≠ 0) : wp 139 65 [.inr a, l1, l2, l3, l4, l5] [] h Q ↔ wp 139 66 [.inr a, l1, l2, l3, l4, l5] [.inr a] h Q := wp_step dX9_plans_65 (fun _ => if_neg h0)
theorem s139_66 (ha : tg a = 8) : wp 139 66 [l0, l1, l2, l3, l4, l5] [.inr a] (hp S D) Q ↔ wp 139 69 [l0, l1, l2, l3, l4, l5] [.inr (a + 1)] (hp S D) Q := w_getR dX9_plans_66 (t := 8) (j := 0) (c := 2) (by decide +kernel) (by decide) rfl (ln_ok (by decide) (by decide)) ha
theorem s139_69  : wp 139 69 [l0, l1, l2, l3, l4, l5] [v0] h Q ↔ wp 139 71 [l0, l1, l2, l3, l4, l5] [.inl 49, v0] h Q := w_const2 dX9_plans_69 k_49 k8_49
theorem s139_71  : wp 139 71 [l0, l1, l2, l3, l4, l5] [p, q] h Q ↔ wp 139 72 [l0, l1, l2, l3, l4, l5] [p, q, p, q] h Q := wp_step dX9_plans_71 (fun _ => rfl)
theorem s139_72 (ha : tg a = 100) (h0 : 0 ≤ x) (h1 : x < ln S a) : wp 139 72 [l0, l1, l2, l3, l4, l5] [.inl x, .inr a, v0, v1] (hp S D) Q ↔ wp 139 73 [l0, l1, l2, l3, l4, l5] [.inl (rd S D a x.toNat), v0, v1] (hp S D) Q := w_iald dX9_plans_72 ha h0 h1
theorem s139_73  : wp 139 73 [l0, l1, l2, l3, l4, l5] [v0, v1, v2] h Q ↔ wp 139 74 [l0, l1, l2, l3, l4, l5] [.inl 1, v0, v1, v2] h Q := w_const1 dX9_plans_73 k_1
theorem s139_74  : wp 139 74 [l0, l1, l2, l3, l4, l5] [.inl z, .inl x, v0, v1] h Q ↔ wp 139 75 [l0, l1, l2, l3, l4, l5] [.inl (w32 (x + z)), v0, v1] h Q := wp_step dX9_plans_74 (fun _ => rfl)
theorem s139_75 (ha : tg a = 100) (h8 : 8 ≤ a) (h0 : 0 ≤ x) (h1 : x < ln S a) : wp 139 75 [l0, l1, l2, l3, l4, l5] [.inl z, .inl x, .inr a] (hp S D) Q ↔ wp 139 76 [l0, l1, l2, l3, l4, l5] [] (hp S (up D a x.toNat z)) Q := w_iast dX9_plans_75 ha h8 h0 h1
theorem s139_76 (h0 : a ≠ 0) : wp 139 76 [.inr a, l1, l2, l3, l4, l5] [] h Q ↔ wp 139 77 [.inr a, l1, l2, l3, l4, l5] [.inr a] h Q := wp_step dX9_plans_76 (fun _ => if_neg h0)
theorem s139_77 (ha : tg a = 8) : wp 139 77 [l0, l1, l2, l3, l4, l5] [.inr a] (hp S D) Q ↔ wp 139 80 [l0, l1, l2, l3, l4, l5] [.inr (a + 1)] (hp S D) Q := w_getR dX9_plans_77 (t := 8) (j := 0) (c := 2) (by decide +kernel) (by decide) rfl (ln_ok (by decide) (by decide)) ha
theorem s139_80  : wp 139 80 [l0, l1, l2, l3, .inl x, l5] [v0] h Q ↔ wp 139 82 [l0, l1, l2, l3, .inl x, l5] [.inl x, v0] h Q := wp_step dX9_plans_80 (fun _ => rfl)
theorem s139_82  : wp 139 82 [l0, .inl x, l2, l3, l4, l5] [v0, v1] h Q ↔ wp 139 83 [l0, .inl x, l2, l3, l4, l5] [.inl x, v0, v1] h Q := wp_step dX9_plans_82 (fun _ => rfl)
theorem s139_83 (ha : tg a = 100) (h8 : 8 ≤ a) (h0 : 0 ≤ x) (h1 : x < ln S a) : wp 139 83 [l0, l1, l2, l3, l4, l5] [.inl z, .inl x, .inr a] (hp S D) Q ↔ wp 139 84 [l0, l1, l2, l3, l4, l5] [] (hp S (up D a x.toNat z)) Q := w_iast dX9_plans_83 ha h8 h0 h1
theorem s139_84 (h0 : a ≠ 0) : wp 139 84 [.inr a, l1, l2, l3, l4, l5] [] h Q ↔ wp 139 85 [.inr a, l1, l2, l3, l4, l5] [.inr a] h Q := wp_step dX9_plans_84 (fun _ => if_neg h0)
theorem s139_85 (ha : tg a = 8) : wp 139 85 [l0, l1, l2, l3, l4, l5] [.inr a] (hp S D) Q ↔ wp 139 88 [l0, l1, l2, l3, l4, l5] [.inr (a + 1)] (hp S D) Q := w_getR dX9_plans_85 (t := 8) (j := 0) (c := 2) (by decide +kernel) (by decide) rfl (ln_ok (by decide) (by decide)) ha
theorem s139_88  : wp 139 88 [l0, l1, l2, l3, .inl x, l5] [v0] h Q ↔ wp 139 90 [l0, l1, l2, l3, .inl x, l5] [.inl x, v0] h Q := wp_step dX9_plans_88 (fun _ => rfl)
theorem s139_90  : wp 139 90 [l0, l1, l2, l3, l4, l5] [v0, v1] h Q ↔ wp 139 91 [l0, l1, l2, l3, l4, l5] [.inl 1, v0, v1] h Q := w_const1 dX9_plans_90 k_1
theorem s139_91  : wp 139 91 [l0, l1, l2, l3, l4, l5] [.inl z, .inl x, v0] h Q ↔ wp 139 92 [l0, l1, l2, l3, l4, l5] [.inl (w32 (x + z)), v0] h Q := wp_step dX9_plans_91 (fun _ => rfl)
theorem s139_92  : wp 139 92 [l0, l1, .inl x, l3, l4, l5] [v0, v1] h Q ↔ wp 139 93 [l0, l1, .inl x, l3, l4, l5] [.inl x, v0, v1] h Q := wp_step dX9_plans_92 (fun _ => rfl)
theorem s139_93 (ha : tg a = 100) (h8 : 8 ≤ a) (h0 : 0 ≤ x) (h1 : x < ln S a) : wp 139 93 [l0, l1, l2, l3, l4, l5] [.inl z, .inl x, .inr a] (hp S D) Q ↔ wp 139 94 [l0, l1, l2, l3, l4, l5] [] (hp S (up D a x.toNat z)) Q := w_iast dX9_plans_93 ha h8 h0 h1
theorem s139_94 (h0 : a ≠ 0) : wp 139 94 [.inr a, l1, l2, l3, l4, l5] [] h Q ↔ wp 139 95 [.inr a, l1, l2, l3, l4, l5] [.inr a] h Q := wp_step dX9_plans_94 (fun _ => if_neg h0)
theorem s139_95 (ha : tg a = 8) : wp 139 95 [l0, l1, l2, l3, l4, l5] [.inr a] (hp S D) Q ↔ wp 139 98 [l0, l1, l2, l3, l4, l5] [.inr (a + 1)] (hp S D) Q := w_getR dX9_plans_95 (t := 8) (j := 0) (c := 2) (by decide +kernel) (by decide) rfl (ln_ok (by decide) (by decide)) ha
theorem s139_98  : wp 139 98 [l0, l1, l2, l3, .inl x, l5] [v0] h Q ↔ wp 139 100 [l0, l1, l2, l3, .inl x, l5] [.inl x, v0] h Q := wp_step dX9_plans_98 (fun _ => rfl)
theorem s139_100  : wp 139 100 [l0, l1, l2, l3, l4, l5] [v0, v1] h Q ↔ wp 139 101 [l0, l1, l2, l3, l4, l5] [.inl 2, v0, v1] h Q := w_const1 dX9_plans_100 k_2
theorem s139_101  : wp 139 101 [l0, l1, l2, l3, l4, l5] [.inl z, .inl x, v0] h Q ↔ wp 139 102 [l0, l1, l2, l3, l4, l5] [.inl (w32 (x + z)), v0] h Q := wp_step dX9_plans_101 (fun _ => rfl)
theorem s139_102  : wp 139 102 [l0, l1, l2, .inl x, l4, l5] [v0, v1] h Q ↔ wp 139 103 [l0, l1, l2, .inl x, l4, l5] [.inl x, v0, v1] h Q := wp_step dX9_plans_102 (fun _ => rfl)
theorem s139_103 (ha : tg a = 100) (h8 : 8 ≤ a) (h0 : 0 ≤ x) (h1 : x < ln S a) : wp 139 103 [l0, l1, l2, l3, l4, l5] [.inl z, .inl x, .inr a] (hp S D) Q ↔ wp 139 104 [l0, l1, l2, l3, l4, l5] [] (hp S (up D a x.toNat z)) Q := w_iast dX9_plans_103 ha h8 h0 h1
theorem s139_104  : wp 139 104 [l0, l1, l2, l3, l4, l5] [] h Q ↔ Q none h := w_retv dX9_plans_104 (by decide +kernel)
theorem s140_0  : wp 140 0 [l0, .inl x, l2, l3] [] h Q ↔ wp 140 1 [l0, .inl x, l2, l3] [.inl x] h Q := wp_step dX9_boat_0 (fun _ => rfl)
theorem s140_1  : wp 140 1 [l0, l1, l2, l3] [v0] h Q ↔ wp 140 2 [l0, l1, l2, l3] [.inl 0, v0] h Q := w_const1 dX9_boat_1 k_0
theorem s140_2  : wp 140 2 [l0, l1, l2, l3] [v0, v1] h Q ↔ wp 140 5 [l0, l1, l2, l3] [.inl 9999, v0, v1] h Q := w_const3 dX9_boat_2 k_9999 k16_9999
theorem s140_5  : wp 140 5 [l0, l1, l2, l3] [p2, p1, p0] h Q ↔ wp 99 0 [p0, p1, p2] [] h (kont 140 8 [l0, l1, l2, l3] [] Q) := w_callS (y2 := 99) (kd := 0) (vs := [p0, p1, p2]) (st := []) dX9_boat_5 (by decide +kernel) (by decide) rfl (by decide +kernel) (Nat.le_of_ble_eq_true rfl) (by simp)
theorem s140_8  : wp 140 8 [l0, l1, l2, l3] [.inl x] h Q ↔ if x = 0 then wp 140 28 [l0, l1, l2, l3] [] h Q else wp 140 11 [l0, l1, l2, l3] [] h Q := w_eq0 dX9_boat_8 (by decide)
theorem s140_11  : wp 140 11 [l0, l1, .inl x, l3] [] h Q ↔ wp 140 12 [l0, l1, .inl x, l3] [.inl x] h Q := wp_step dX9_boat_11 (fun _ => rfl)
theorem s140_12  : wp 140 12 [l0, l1, l2, l3] [p0] h Q ↔ wp 132 0 [p0] [] h (kont 140 15 [l0, l1, l2, l3] [] Q) := w_callS (y2 := 132) (kd := 0) (vs := [p0]) (st := []) dX9_boat_12 (by decide +kernel) (by decide) rfl (by decide +kernel) (Nat.le_of_ble_eq_true rfl) (by simp)
theorem s140_15  : wp 140 15 [l0, l1, l2, l3] [.inl x] h Q ↔ if x = 0 then wp 140 28 [l0, l1, l2, l3] [] h Q else wp 140 18 [l0, l1, l2, l3] [] h Q := w_eq0 dX9_boat_15 (by decide)
theorem s140_18  : wp 140 18 [l0, l1, l2, .inl x] [] h Q ↔ wp 140 19 [l0, l1, l2, .inl x] [.inl x] h Q := wp_step dX9_boat_18 (fun _ => rfl)
theorem s140_19  : wp 140 19 [l0, l1, l2, l3] [v0] h Q ↔ wp 140 20 [l0, l1, l2, l3] [.inl 1, v0] h Q := w_const1 dX9_boat_19 k_1
theorem s140_20  : wp 140 20 [l0, l1, l2, l3] [v0, v1] h Q ↔ wp 140 22 [l0, l1, l2, l3] [.inl 6, v0, v1] h Q := w_const2 dX9_boat_20 k_6 k8_6
theorem s140_22  : wp 140 22 [l0, l1, l2, l3] [p2, p1, p0] h Q ↔ wp 99 0 [p0, p1, p2] [] h (kont 140 25 [l0, l1, l2, l3] [] Q) := w_callS (y2 := 99) (kd := 0) (vs := [p0, p1, p2]) (st := []) dX9_boat_22 (by decide +kernel) (by decide) rfl (by decide +kernel) (Nat.le_of_ble_eq_true rfl) (by simp)
theorem s140_25  : wp 140 25 [l0, l1, l2, l3] [.inl x] h Q ↔ if x = 0 then wp 140 28 [l0, l1, l2, l3] [] h Q else wp 140 31 [l0, l1, l2, l3] [] h Q := w_ne0 dX9_boat_25 (by decide)
theorem s140_28  : wp 140 28 [l0, l1, l2, l3] [] h Q ↔ wp 140 30 [l0, l1, l2, l3] [.inl (-2)] h Q := w_const2 dX9_boat_28 k_m2 k8_m2
theorem s140_30  : wp 140 30 [l0, l1, l2, l3] [.inl x] h Q ↔ Q (some (.inl x)) h := w_reti dX9_boat_30 (e_ri (by decide +kernel))
theorem s140_31 (h0 : a ≠ 0) : wp 140 31 [.inr a, l1, l2, l3] [] h Q ↔ wp 140 32 [.inr a, l1, l2, l3] [.inr a] h Q := wp_step dX9_boat_31 (fun _ => if_neg h0)
theorem s140_32 (ha : tg a = 8) : wp 140 32 [l0, l1, l2, l3] [.inr a] (hp S D) Q ↔ wp 140 35 [l0, l1, l2, l3] [.inr (a + 1)] (hp S D) Q := w_getR dX9_boat_32 (t := 8) (j := 0) (c := 2) (by decide +kernel) (by decide) rfl (ln_ok (by decide) (by decide)) ha
theorem s140_35  : wp 140 35 [l0, l1, l2, l3] [v0] h Q ↔ wp 140 37 [l0, l1, l2, l3] [.inl 49, v0] h Q := w_const2 dX9_boat_35 k_49 k8_49
theorem s140_37 (ha : tg a = 100) (h0 : 0 ≤ x) (h1 : x < ln S a) : wp 140 37 [l0, l1, l2, l3] [.inl x, .inr a] (hp S D) Q ↔ wp 140 38 [l0, l1, l2, l3] [.inl (rd S D a x.toNat)] (hp S D) Q := w_iald dX9_boat_37 ha h0 h1
theorem s140_38  : wp 140 38 [l0, l1, l2, l3] [v0] h Q ↔ wp 140 40 [l0, l1, l2, l3] [.inl 10, v0] h Q := w_const2 dX9_boat_38 k_10 k8_10
theorem s140_40  : wp 140 40 [l0, l1, l2, l3] [.inl z, .inl x] h Q ↔ if x = z then wp 140 43 [l0, l1, l2, l3] [] h Q else wp 140 54 [l0, l1, l2, l3] [] h Q := w_cne dX9_boat_40 (by decide)
theorem s140_43 (h0 : a ≠ 0) : wp 140 43 [.inr a, l1, l2, l3] [] h Q ↔ wp 140 44 [.inr a, l1, l2, l3] [.inr a] h Q := wp_step dX9_boat_43 (fun _ => if_neg h0)
theorem s140_44  : wp 140 44 [l0, .inl x, l2, l3] [v0] h Q ↔ wp 140 45 [l0, .inl x, l2, l3] [.inl x, v0] h Q := wp_step dX9_boat_44 (fun _ => rfl)
theorem s140_45 (ha : tg a = 8) : wp 140 45 [l0, l1, l2, l3] [p0, .inr a] (hp S D) Q ↔ wp 138 0 [.inr a, p0, .inr 0] [] (hp S D) (kont 140 48 [l0, l1, l2, l3] [] Q) := w_callV (y2 := 138) (vs := [p0]) (st := []) dX9_boat_45 (by decide +kernel) rfl (by decide +kernel) (Nat.le_of_ble_eq_true rfl) (by simp) 8 rfl (by decide) ha
theorem s140_48  : wp 140 48 [l0, l1, l2, l3] [.inl x] h Q ↔ if x = 0 then wp 140 51 [l0, l1, l2, l3] [] h Q else wp 140 54 [l0, l1, l2, l3] [] h Q := w_ne0 dX9_boat_48 (by decide)
theorem s140_51  : wp 140 51 [l0, l1, l2, l3] [] h Q ↔ wp 140 53 [l0, l1, l2, l3] [.inl (-3)] h Q := w_const2 dX9_boat_51 k_m3 k8_m3
theorem s140_53  : wp 140 53 [l0, l1, l2, l3] [.inl x] h Q ↔ Q (some (.inl x)) h := w_reti dX9_boat_53 (e_ri (by decide +kernel))
theorem s140_54 (h0 : a ≠ 0) : wp 140 54 [.inr a, l1, l2, l3] [] h Q ↔ wp 140 55 [.inr a, l1, l2, l3] [.inr a] h Q := wp_step dX9_boat_54 (fun _ => if_neg h0)
theorem s140_55 (ha : tg a = 8) : wp 140 55 [l0, l1, l2, l3] [.inr a] (hp S D) Q ↔ wp 102 0 [.inr a, .inr 0] [] (hp S D) (kont 140 58 [l0, l1, l2, l3] [] Q) := w_callV (y2 := 102) (vs := []) (st := []) dX9_boat_55 (by decide +kernel) rfl (by decide +kernel) (Nat.le_of_ble_eq_true rfl) (by simp) 8 rfl (by decide) ha
theorem s140_58 (h0 : a ≠ 0) : wp 140 58 [.inr a, l1, l2, l3] [] h Q ↔ wp 140 59 [.inr a, l1, l2, l3] [.inr a] h Q := wp_step dX9_boat_58 (fun _ => if_neg h0)
theorem s140_59  : wp 140 59 [l0, .inl x, l2, l3] [v0] h Q ↔ wp 140 60 [l0, .inl x, l2, l3] [.inl x, v0] h Q := wp_step dX9_boat_59 (fun _ => rfl)
theorem s140_60  : wp 140 60 [l0, l1, .inl x, l3] [v0, v1] h Q ↔ wp 140 61 [l0, l1, .inl x, l3] [.inl x, v0, v1] h Q := wp_step dX9_boat_60 (fun _ => rfl)
theorem s140_61  : wp 140 61 [l0, l1, l2, .inl x] [v0, v1, v2] h Q ↔ wp 140 62 [l0, l1, l2, .inl x] [.inl x, v0, v1, v2] h Q := wp_step dX9_boat_61 (fun _ => rfl)
theorem s140_62 (ha : tg a = 8) : wp 140 62 [l0, l1, l2, l3] [p2, p1, p0, .inr a] (hp S D) Q ↔ wp 139 0 [.inr a, p0, p1, p2, .inr 0, .inr 0] [] (hp S D) (kont 140 65 [l0, l1, l2, l3] [] Q) := w_callV (y2 := 139) (vs := [p0, p1, p2]) (st := []) dX9_boat_62 (by decide +kernel) rfl (by decide +kernel) (Nat.le_of_ble_eq_true rfl) (by simp) 8 rfl (by decide) ha
theorem s140_65 (h0 : a ≠ 0) : wp 140 65 [.inr a, l1, l2, l3] [] h Q ↔ wp 140 66 [.inr a, l1, l2, l3] [.inr a] h Q := wp_step dX9_boat_65 (fun _ => if_neg h0)
theorem s140_66 (ha : tg a = 8) : wp 140 66 [l0, l1, l2, l3] [.inr a] (hp S D) Q ↔ wp 140 69 [l0, l1, l2, l3] [.inr (a + 1)] (hp S D) Q := w_getR dX9_boat_66 (t := 8) (j := 0) (c := 2) (by decide +kernel) (by decide) rfl (ln_ok (by decide) (by decide)) ha
theorem s140_69  : wp 140 69 [l0, l1, l2, l3] [v0] h Q ↔ wp 140 71 [l0, l1, l2, l3] [.inl 49, v0] h Q := w_const2 dX9_boat_69 k_49 k8_49
theorem s140_71 (ha : tg a = 100) (h0 : 0 ≤ x) (h1 : x < ln S a) : wp 140 71 [l0, l1, l2, l3] [.inl x, .inr a] (hp S D) Q ↔ wp 140 72 [l0, l1, l2, l3] [.inl (rd S D a x.toNat)] (hp S D) Q := w_iald dX9_boat_71 ha h0 h1
theorem s140_72  : wp 140 72 [l0, l1, l2, l3] [.inl x] h Q ↔ Q (some (.inl x)) h := w_reti dX9_boat_72 (e_ri (by decide +kernel))
theorem s141_0  : wp 141 0 [l0, .inl x, l2, l3] [] h Q ↔ wp 141 1 [l0, .inl x, l2, l3] [.inl x] h Q := wp_step dX9_pass_0 (fun _ => rfl)
theorem s141_1  : wp 141 1 [l0, l1, l2, l3] [v0] h Q ↔ wp 141 2 [l0, l1, l2, l3] [.inl 1, v0] h Q := w_const1 dX9_pass_1 k_1
theorem s141_2  : wp 141 2 [l0, l1, l2, l3] [v0, v1] h Q ↔ wp 141 5 [l0, l1, l2, l3] [.inl 200, v0, v1] h Q := w_const3 dX9_pass_2 k_200 k16_200
theorem s141_5  : wp 141 5 [l0, l1, l2, l3] [p2, p1, p0] h Q ↔ wp 99 0 [p0, p1, p2] [] h (kont 141 8 [l0, l1, l2, l3] [] Q) := w_callS (y2 := 99) (kd := 0) (vs := [p0, p1, p2]) (st := []) dX9_pass_5 (by decide +kernel) (by decide) rfl (by decide +kernel) (Nat.le_of_ble_eq_true rfl) (by simp)
theorem s141_8  : wp 141 8 [l0, l1, l2, l3] [.inl x] h Q ↔ if x = 0 then wp 141 11 [l0, l1, l2, l3] [] h Q else wp 141 14 [l0, l1, l2, l3] [] h Q := w_ne0 dX9_pass_8 (by decide)
theorem s141_11  : wp 141 11 [l0, l1, l2, l3] [] h Q ↔ wp 141 13 [l0, l1, l2, l3] [.inl (-2)] h Q := w_const2 dX9_pass_11 k_m2 k8_m2
theorem s141_13  : wp 141 13 [l0, l1, l2, l3] [.inl x] h Q ↔ Q (some (.inl x)) h := w_reti dX9_pass_13 (e_ri (by decide +kernel))
theorem s141_14 (h0 : a ≠ 0) : wp 141 14 [.inr a, l1, l2, l3] [] h Q ↔ wp 141 15 [.inr a, l1, l2, l3] [.inr a] h Q := wp_step dX9_pass_14 (fun _ => if_neg h0)
theorem s141_15 (ha : tg a = 8) : wp 141 15 [l0, l1, l2, l3] [.inr a] (hp S D) Q ↔ wp 141 18 [l0, l1, l2, l3] [.inr (a + 1)] (hp S D) Q := w_getR dX9_pass_15 (t := 8) (j := 0) (c := 2) (by decide +kernel) (by decide) rfl (ln_ok (by decide) (by decide)) ha
theorem s141_18  : wp 141 18 [l0, l1, l2, l3] [v0] h Q ↔ wp 141 19 [l0, l1, l2, l3] [.inl 0, v0] h Q := w_const1 dX9_pass_18 k_0
theorem s141_19 (ha : tg a = 100) (h0 : 0 ≤ x) (h1 : x < ln S a) : wp 141 19 [l0, l1, l2, l3] [.inl x, .inr a] (hp S D) Q ↔ wp 141 20 [l0, l1, l2, l3] [.inl (rd S D a x.toNat)] (hp S D) Q := w_iald dX9_pass_19 ha h0 h1
theorem s141_20  : wp 141 20 [l0, .inl x, l2, l3] [v0] h Q ↔ wp 141 21 [l0, .inl x, l2, l3] [.inl x, v0] h Q := wp_step dX9_pass_20 (fun _ => rfl)
theorem s141_21  : wp 141 21 [l0, l1, l2, l3] [.inl z, .inl x] h Q ↔ wp 141 22 [l0, l1, l2, l3] [.inl (w32 (x + z))] h Q := wp_step dX9_pass_21 (fun _ => rfl)
theorem s141_22  : wp 141 22 [l0, l1, l2, l3] [v0] h Q ↔ wp 141 24 [l0, l1, l2, l3] [.inl 99999, v0] h Q := w_ldc dX9_pass_22 (by decide +kernel)
theorem s141_24  : wp 141 24 [l0, l1, l2, l3] [.inl z, .inl x] h Q ↔ if z < x then wp 141 27 [l0, l1, l2, l3] [] h Q else wp 141 30 [l0, l1, l2, l3] [] h Q := w_cle dX9_pass_24 (by decide)
theorem s141_27  : wp 141 27 [l0, l1, l2, l3] [] h Q ↔ wp 141 29 [l0, l1, l2, l3] [.inl (-3)] h Q := w_const2 dX9_pass_27 k_m3 k8_m3
theorem s141_29  : wp 141 29 [l0, l1, l2, l3] [.inl x] h Q ↔ Q (some (.inl x)) h := w_reti dX9_pass_29 (e_ri (by decide +kernel))
theorem s141_30 (h0 : a ≠ 0) : wp 141 30 [.inr a, l1, l2, l3] [] h Q ↔ wp 141 31 [.inr a, l1, l2, l3] [.inr a] h Q := wp_step dX9_pass_30 (fun _ => if_neg h0)
theorem s141_31 (ha : tg a = 8) : wp 141 31 [l0, l1, l2, l3] [.inr a] (hp S D) Q ↔ wp 102 0 [.inr a, .inr 0] [] (hp S D) (kont 141 34 [l0, l1, l2, l3] [] Q) := w_callV (y2 := 102) (vs := []) (st := []) dX9_pass_31 (by decide +kernel) rfl (by decide +kernel) (Nat.le_of_ble_eq_true rfl) (by simp) 8 rfl (by decide) ha
theorem s141_34  : wp 141 34 [l0, l1, l2, l3] [] h Q ↔ wp 141 35 [l0, l1, l2, l3] [.inl 0] h Q := w_const1 dX9_pass_34 k_0
theorem s141_35  : wp 141 35 [l0, l1, l2, l3] [.inl x] h Q ↔ wp 141 36 [l0, l1, .inl x, l3] [] h Q := wp_step dX9_pass_35 (fun _ => rfl)
theorem s141_36  : wp 141 36 [l0, l1, l2, l3] [] h Q ↔ wp 141 37 [l0, l1, l2, l3] [.inl 0] h Q := w_const1 dX9_pass_36 k_0
theorem s141_37  : wp 141 37 [l0, l1, l2, l3] [.inl x] h Q ↔ wp 141 38 [l0, l1, l2, .inl x] [] h Q := wp_step dX9_pass_37 (fun _ => rfl)
theorem s141_38  : wp 141 38 [l0, l1, l2, .inl x] [] h Q ↔ wp 141 39 [l0, l1, l2, .inl x] [.inl x] h Q := wp_step dX9_pass_38 (fun _ => rfl)
theorem s141_39  : wp 141 39 [l0, .inl x, l2, l3] [v0] h Q ↔ wp 141 40 [l0, .inl x, l2, l3] [.inl x, v0] h Q := wp_step dX9_pass_39 (fun _ => rfl)
theorem s141_40  : wp 141 40 [l0, l1, l2, l3] [.inl z, .inl x] h Q ↔ if x < z then wp 141 43 [l0, l1, l2, l3] [] h Q else wp 141 68 [l0, l1, l2, l3] [] h Q := w_cge dX9_pass_40 (by decide)
theorem s141_43  : wp 141 43 [l0, l1, .inl x, l3] [] h Q ↔ wp 141 44 [l0, l1, .inl x, l3] [.inl x] h Q := wp_step dX9_pass_43 (fun _ => rfl)
theorem s141_44 (h0 : a ≠ 0) : wp 141 44 [.inr a, l1, l2, l3] [v0] h Q ↔ wp 141 45 [.inr a, l1, l2, l3] [.inr a, v0] h Q := wp_step dX9_pass_44 (fun _ => if_neg h0)
theorem s141_45 (ha : tg a = 8) : wp 141 45 [l0, l1, l2, l3] [.inr a, v0] (hp S D) Q ↔ wp 141 48 [l0, l1, l2, l3] [.inr (a + 1), v0] (hp S D) Q := w_getR dX9_pass_45 (t := 8) (j := 0) (c := 2) (by decide +kernel) (by decide) rfl (ln_ok (by decide) (by decide)) ha
theorem s141_48  : wp 141 48 [l0, l1, l2, l3] [v0, v1] h Q ↔ wp 141 49 [l0, l1, l2, l3] [.inl 1, v0, v1] h Q := w_const1 dX9_pass_48 k_1
theorem s141_49  : wp 141 49 [l0, l1, l2, l3] [p1, p0, v0] h Q ↔ wp 128 0 [p0, p1, .inr 0, .inr 0, .inr 0, .inr 0, .inr 0] [] h (kont 141 52 [l0, l1, l2, l3] [v0] Q) := w_callS (y2 := 128) (kd := 0) (vs := [p0, p1]) (st := [v0]) dX9_pass_49 (by decide +kernel) (by decide) rfl (by decide +kernel) (Nat.le_of_ble_eq_true rfl) (by simp)
theorem s141_52  : wp 141 52 [l0, l1, l2, l3] [.inl x, v0] h Q ↔ if x = 0 then wp 141 59 [l0, l1, l2, l3] [v0] h Q else wp 141 55 [l0, l1, l2, l3] [v0] h Q := w_eq0 dX9_pass_52 (by decide)
theorem s141_55  : wp 141 55 [l0, l1, l2, l3] [v0] h Q ↔ wp 141 56 [l0, l1, l2, l3] [.inl 1, v0] h Q := w_const1 dX9_pass_55 k_1
theorem s141_56  : wp 141 56 [l0, l1, l2, l3] [v0, v1] h Q ↔ wp 141 60 [l0, l1, l2, l3] [v0, v1] h Q := w_goto dX9_pass_56 (by decide)
theorem s141_59  : wp 141 59 [l0, l1, l2, l3] [v0] h Q ↔ wp 141 60 [l0, l1, l2, l3] [.inl 0, v0] h Q := w_const1 dX9_pass_59 k_0
theorem s141_60  : wp 141 60 [l0, l1, l2, l3] [.inl z, .inl x] h Q ↔ wp 141 61 [l0, l1, l2, l3] [.inl (w32 (x + z))] h Q := wp_step dX9_pass_60 (fun _ => rfl)
theorem s141_61  : wp 141 61 [l0, l1, l2, l3] [.inl x] h Q ↔ wp 141 62 [l0, l1, .inl x, l3] [] h Q := wp_step dX9_pass_61 (fun _ => rfl)
theorem s141_62  : wp 141 62 [l0, l1, l2, .inl x] [] h Q ↔ wp 141 65 [l0, l1, l2, .inl (w32 (x + 1))] [] h Q := wp_step dX9_pass_62 (fun _ => rfl)
theorem s141_65  : wp 141 65 [l0, l1, l2, l3] [] h Q ↔ wp 141 38 [l0, l1, l2, l3] [] h Q := w_goto dX9_pass_65 (by decide)
theorem s141_68  : wp 141 68 [l0, l1, .inl x, l3] [] h Q ↔ wp 141 69 [l0, l1, .inl x, l3] [.inl x] h Q := wp_step dX9_pass_68 (fun _ => rfl)
theorem s141_69  : wp 141 69 [l0, l1, l2, l3] [.inl x] h Q ↔ Q (some (.inl x)) h := w_reti dX9_pass_69 (e_ri (by decide +kernel))
theorem s142_0 (h0 : a ≠ 0) : wp 142 0 [.inr a, l1] [] h Q ↔ wp 142 1 [.inr a, l1] [.inr a] h Q := wp_step dX9_type_0 (fun _ => if_neg h0)
theorem s142_1 (ha : tg a = 8) : wp 142 1 [l0, l1] [.inr a] (hp S D) Q ↔ wp 142 4 [l0, l1] [.inl (D a 7)] (hp S D) Q := w_getI dX9_type_1 (t := 8) (j := 7) (c := 0) (by decide +kernel) (by decide) rfl (ln_ok (by decide) (by decide)) ha
theorem s142_4  : wp 142 4 [l0, l1] [v0] h Q ↔ wp 142 6 [l0, l1] [.inl 60, v0] h Q := w_const2 dX9_type_4 k_60 k8_60
theorem s142_6  : wp 142 6 [l0, l1] [.inl z, .inl x] h Q ↔ if x = z then wp 142 9 [l0, l1] [] h Q else wp 142 12 [l0, l1] [] h Q := w_cne dX9_type_6 (by decide)
theorem s142_9  : wp 142 9 [l0, l1] [] h Q ↔ wp 142 11 [l0, l1] [.inl (-3)] h Q := w_const2 dX9_type_9 k_m3 k8_m3
theorem s142_11  : wp 142 11 [l0, l1] [.inl x] h Q ↔ Q (some (.inl x)) h := w_reti dX9_type_11 (e_ri (by decide +kernel))
theorem s142_12 (h0 : a ≠ 0) : wp 142 12 [.inr a, l1] [] h Q ↔ wp 142 13 [.inr a, l1] [.inr a] h Q := wp_step dX9_type_12 (fun _ => if_neg h0)
theorem s142_13 (ha : tg a = 8) : wp 142 13 [l0, l1] [.inr a] (hp S D) Q ↔ wp 142 16 [l0, l1] [.inr (a + 5)] (hp S D) Q := w_getR dX9_type_13 (t := 8) (j := 6) (c := 2) (by decide +kernel) (by decide) rfl (ln_ok (by decide) (by decide)) ha
theorem s142_16 (h0 : a ≠ 0) : wp 142 16 [.inr a, l1] [v0] h Q ↔ wp 142 17 [.inr a, l1] [.inr a, v0] h Q := wp_step dX9_type_16 (fun _ => if_neg h0)
theorem s142_17 (ha : tg a = 8) : wp 142 17 [l0, l1] [.inr a, v0] (hp S D) Q ↔ wp 142 20 [l0, l1] [.inl (D a 7), v0] (hp S D) Q := w_getI dX9_type_17 (t := 8) (j := 7) (c := 0) (by decide +kernel) (by decide) rfl (ln_ok (by decide) (by decide)) ha
theorem s142_20  : wp 142 20 [l0, .inl x] [v0, v1] h Q ↔ wp 142 21 [l0, .inl x] [.inl x, v0, v1] h Q := wp_step dX9_type_20 (fun _ => rfl)
theorem s142_21 (ha : tg a = 101) (h0 : 0 ≤ x) (h1 : x < ln S a) (hv : 0 ≤ z ∧ z < 65536) : wp 142 21 [l0, l1] [.inl z, .inl x, .inr a] (hp S D) Q ↔ wp 142 22 [l0, l1] [] (hp S (up D a x.toNat z)) Q := w_cast dX9_type_21 ha h0 h1 hv
theorem s142_22 (h0 : a ≠ 0) : wp 142 22 [.inr a, l1] [] h Q ↔ wp 142 23 [.inr a, l1] [.inr a] h Q := wp_step dX9_type_22 (fun _ => if_neg h0)
theorem s142_23  : wp 142 23 [l0, l1] [p] h Q ↔ wp 142 24 [l0, l1] [p, p] h Q := wp_step dX9_type_23 (fun _ => rfl)
theorem s142_24 (ha : tg a = 8) : wp 142 24 [l0, l1] [.inr a, v0] (hp S D) Q ↔ wp 142 27 [l0, l1] [.inl (D a 7), v0] (hp S D) Q := w_getI dX9_type_24 (t := 8) (j := 7) (c := 0) (by decide +kernel) (by decide) rfl (ln_ok (by decide) (by decide)) ha
theorem s142_27  : wp 142 27 [l0, l1] [v0, v1] h Q ↔ wp 142 28 [l0, l1] [.inl 1, v0, v1] h Q := w_const1 dX9_type_27 k_1
theorem s142_28  : wp 142 28 [l0, l1] [.inl z, .inl x, v0] h Q ↔ wp 142 29 [l0, l1] [.inl (w32 (x + z)), v0] h Q := wp_step dX9_type_28 (fun _ => rfl)
theorem s142_29 (ha : tg a = 8) : wp 142 29 [l0, l1] [.inl z, .inr a] (hp S D) Q ↔ wp 142 32 [l0, l1] [] (hp S (up D a 7 z)) Q := w_put dX9_type_29 (t := 8) (j := 7) (c := 0) (by decide +kernel) (by decide +kernel) (by decide) rfl (ln_ok (by decide) (by decide)) (Or.inl rfl) ha
theorem s142_32 (h0 : a ≠ 0) : wp 142 32 [.inr a, l1] [] h Q ↔ wp 142 33 [.inr a, l1] [.inr a] h Q := wp_step dX9_type_32 (fun _ => if_neg h0)
theorem s142_33 (ha : tg a = 8) : wp 142 33 [l0, l1] [.inr a] (hp S D) Q ↔ wp 142 36 [l0, l1] [.inl (D a 7)] (hp S D) Q := w_getI dX9_type_33 (t := 8) (j := 7) (c := 0) (by decide +kernel) (by decide) rfl (ln_ok (by decide) (by decide)) ha
theorem s142_36  : wp 142 36 [l0, l1] [.inl x] h Q ↔ Q (some (.inl x)) h := w_reti dX9_type_36 (e_ri (by decide +kernel))
theorem s143_0 (h0 : a ≠ 0) : wp 143 0 [.inr a, l1] [] h Q ↔ wp 143 1 [.inr a, l1] [.inr a] h Q := wp_step dX9_clearText_0 (fun _ => if_neg h0)
theorem s143_1 (ha : tg a = 8) : wp 143 1 [l0, l1] [.inr a] (hp S D) Q ↔ wp 143 4 [l0, l1] [.inl (D a 7)] (hp S D) Q := w_getI dX9_clearText_1 (t := 8) (j := 7) (c := 0) (by decide +kernel) (by decide) rfl (ln_ok (by decide) (by decide)) ha
theorem s143_4  : wp 143 4 [l0, l1] [.inl x] h Q ↔ wp 143 5 [l0, .inl x] [] h Q := wp_step dX9_clearText_4 (fun _ => rfl)
theorem s143_5 (h0 : a ≠ 0) : wp 143 5 [.inr a, l1] [] h Q ↔ wp 143 6 [.inr a, l1] [.inr a] h Q := wp_step dX9_clearText_5 (fun _ => if_neg h0)
theorem s143_6  : wp 143 6 [l0, l1] [v0] h Q ↔ wp 143 7 [l0, l1] [.inl 0, v0] h Q := w_const1 dX9_clearText_6 k_0
theorem s143_7 (ha : tg a = 8) : wp 143 7 [l0, l1] [.inl z, .inr a] (hp S D) Q ↔ wp 143 10 [l0, l1] [] (hp S (up D a 7 z)) Q := w_put dX9_clearText_7 (t := 8) (j := 7) (c := 0) (by decide +kernel) (by decide +kernel) (by decide) rfl (ln_ok (by decide) (by decide)) (Or.inl rfl) ha
theorem s143_10  : wp 143 10 [l0, .inl x] [] h Q ↔ wp 143 11 [l0, .inl x] [.inl x] h Q := wp_step dX9_clearText_10 (fun _ => rfl)
theorem s143_11  : wp 143 11 [l0, l1] [.inl x] h Q ↔ Q (some (.inl x)) h := w_reti dX9_clearText_11 (e_ri (by decide +kernel))
theorem s144_0 (h0 : a ≠ 0) : wp 144 0 [.inr a, l1, l2] [] h Q ↔ wp 144 1 [.inr a, l1, l2] [.inr a] h Q := wp_step dX9_sees_0 (fun _ => if_neg h0)
theorem s144_1 (ha : tg a = 8) : wp 144 1 [l0, l1, l2] [.inr a] (hp S D) Q ↔ wp 144 4 [l0, l1, l2] [.inl (D a 8)] (hp S D) Q := w_getI dX9_sees_1 (t := 8) (j := 8) (c := 0) (by decide +kernel) (by decide) rfl (ln_ok (by decide) (by decide)) ha
theorem s144_4 (h0 : a ≠ 0) : wp 144 4 [.inr a, l1, l2] [v0] h Q ↔ wp 144 5 [.inr a, l1, l2] [.inr a, v0] h Q := wp_step dX9_sees_4 (fun _ => if_neg h0)
theorem s144_5 (ha : tg a = 8) : wp 144 5 [l0, l1, l2] [.inr a, v0] (hp S D) Q ↔ wp 144 8 [l0, l1, l2] [.inl (D a 7), v0] (hp S D) Q := w_getI dX9_sees_5 (t := 8) (j := 7) (c := 0) (by decide +kernel) (by decide) rfl (ln_ok (by decide) (by decide)) ha
theorem s144_8  : wp 144 8 [l0, l1, l2] [.inl z, .inl x] h Q ↔ if x < z then wp 144 11 [l0, l1, l2] [] h Q else wp 144 32 [l0, l1, l2] [] h Q := w_cge dX9_sees_8 (by decide)
theorem s144_11 (h0 : a ≠ 0) : wp 144 11 [.inr a, l1, l2] [] h Q ↔ wp 144 12 [.inr a, l1, l2] [.inr a] h Q := wp_step dX9_sees_11 (fun _ => if_neg h0)
theorem s144_12 (ha : tg a = 8) : wp 144 12 [l0, l1, l2] [.inr a] (hp S D) Q ↔ wp 144 15 [l0, l1, l2] [.inr (a + 5)] (hp S D) Q := w_getR dX9_sees_12 (t := 8) (j := 6) (c := 2) (by decide +kernel) (by decide) rfl (ln_ok (by decide) (by decide)) ha
theorem s144_15 (h0 : a ≠ 0) : wp 144 15 [.inr a, l1, l2] [v0] h Q ↔ wp 144 16 [.inr a, l1, l2] [.inr a, v0] h Q := wp_step dX9_sees_15 (fun _ => if_neg h0)
theorem s144_16 (ha : tg a = 8) : wp 144 16 [l0, l1, l2] [.inr a, v0] (hp S D) Q ↔ wp 144 19 [l0, l1, l2] [.inl (D a 8), v0] (hp S D) Q := w_getI dX9_sees_16 (t := 8) (j := 8) (c := 0) (by decide +kernel) (by decide) rfl (ln_ok (by decide) (by decide)) ha
theorem s144_19 (ha : tg a = 101) (h0 : 0 ≤ x) (h1 : x < ln S a) : wp 144 19 [l0, l1, l2] [.inl x, .inr a] (hp S D) Q ↔ wp 144 20 [l0, l1, l2] [.inl (D a x.toNat)] (hp S D) Q := w_cald dX9_sees_19 ha h0 h1
theorem s144_20  : wp 144 20 [l0, .inl x, l2] [v0] h Q ↔ wp 144 21 [l0, .inl x, l2] [.inl x, v0] h Q := wp_step dX9_sees_20 (fun _ => rfl)
theorem s144_21  : wp 144 21 [l0, l1, .inl x] [v0, v1] h Q ↔ wp 144 22 [l0, l1, .inl x] [.inl x, v0, v1] h Q := wp_step dX9_sees_21 (fun _ => rfl)
theorem s144_22  : wp 144 22 [l0, l1, l2] [p2, p1, p0] h Q ↔ wp 99 0 [p0, p1, p2] [] h (kont 144 25 [l0, l1, l2] [] Q) := w_callS (y2 := 99) (kd := 0) (vs := [p0, p1, p2]) (st := []) dX9_sees_22 (by decide +kernel) (by decide) rfl (by decide +kernel) (Nat.le_of_ble_eq_true rfl) (by simp)
theorem s144_25  : wp 144 25 [l0, l1, l2] [.inl x] h Q ↔ if x = 0 then wp 144 32 [l0, l1, l2] [] h Q else wp 144 28 [l0, l1, l2] [] h Q := w_eq0 dX9_sees_25 (by decide)
theorem s144_28  : wp 144 28 [l0, l1, l2] [] h Q ↔ wp 144 29 [l0, l1, l2] [.inl 1] h Q := w_const1 dX9_sees_28 k_1
theorem s144_29  : wp 144 29 [l0, l1, l2] [v0] h Q ↔ wp 144 33 [l0, l1, l2] [v0] h Q := w_goto dX9_sees_29 (by decide)
theorem s144_32  : wp 144 32 [l0, l1, l2] [] h Q ↔ wp 144 33 [l0, l1, l2] [.inl 0] h Q := w_const1 dX9_sees_32 k_0
theorem s144_33 (h0 : x = 0 ∨ x = 1) : wp 144 33 [l0, l1, l2] [.inl x] h Q ↔ Q (some (.inl x)) h := w_reti dX9_sees_33 (e_rz (by decide +kernel) h0)
theorem s145_0 (h0 : a ≠ 0) : wp 145 0 [.inr a, l1, l2] [] h Q ↔ wp 145 1 [.inr a, l1, l2] [.inr a] h Q := wp_step dX9_takes_0 (fun _ => if_neg h0)
theorem s145_1  : wp 145 1 [l0, .inl x, l2] [v0] h Q ↔ wp 145 2 [l0, .inl x, l2] [.inl x, v0] h Q := wp_step dX9_takes_1 (fun _ => rfl)
theorem s145_2  : wp 145 2 [l0, .inl x, l2] [v0, v1] h Q ↔ wp 145 3 [l0, .inl x, l2] [.inl x, v0, v1] h Q := wp_step dX9_takes_2 (fun _ => rfl)
theorem s145_3 (ha : tg a = 8) : wp 145 3 [l0, l1, l2] [p1, p0, .inr a] (hp S D) Q ↔ wp 144 0 [.inr a, p0, p1] [] (hp S D) (kont 145 6 [l0, l1, l2] [] Q) := w_callV (y2 := 144) (vs := [p0, p1]) (st := []) dX9_takes_3 (by decide +kernel) rfl (by decide +kernel) (Nat.le_of_ble_eq_true rfl) (by simp) 8 rfl (by decide) ha
theorem s145_6  : wp 145 6 [l0, l1, l2] [.inl x] h Q ↔ wp 145 7 [l0, l1, .inl x] [] h Q := wp_step dX9_takes_6 (fun _ => rfl)
theorem s145_7 (h0 : a ≠ 0) : wp 145 7 [.inr a, l1, l2] [] h Q ↔ wp 145 8 [.inr a, l1, l2] [.inr a] h Q := wp_step dX9_takes_7 (fun _ => if_neg h0)
theorem s145_8  : wp 145 8 [l0, l1, l2] [p] h Q ↔ wp 145 9 [l0, l1, l2] [p, p] h Q := wp_step dX9_takes_8 (fun _ => rfl)
theorem s145_9 (ha : tg a = 8) : wp 145 9 [l0, l1, l2] [.inr a, v0] (hp S D) Q ↔ wp 145 12 [l0, l1, l2] [.inl (D a 8), v0] (hp S D) Q := w_getI dX9_takes_9 (t := 8) (j := 8) (c := 0) (by decide +kernel) (by decide) rfl (ln_ok (by decide) (by decide)) ha
theorem s145_12  : wp 145 12 [l0, l1, .inl x] [v0, v1] h Q ↔ wp 145 13 [l0, l1, .inl x] [.inl x, v0, v1] h Q := wp_step dX9_takes_12 (fun _ => rfl)
theorem s145_13  : wp 145 13 [l0, l1, l2] [.inl x, v0, v1] h Q ↔ if x = 0 then wp 145 20 [l0, l1, l2] [v0, v1] h Q else wp 145 16 [l0, l1, l2] [v0, v1] h Q := w_eq0 dX9_takes_13 (by decide)
theorem s145_16  : wp 145 16 [l0, l1, l2] [v0, v1] h Q ↔ wp 145 17 [l0, l1, l2] [.inl 1, v0, v1] h Q := w_const1 dX9_takes_16 k_1
theorem s145_17  : wp 145 17 [l0, l1, l2] [v0, v1, v2] h Q ↔ wp 145 21 [l0, l1, l2] [v0, v1, v2] h Q := w_goto dX9_takes_17 (by decide)
theorem s145_20  : wp 145 20 [l0, l1, l2] [v0, v1] h Q ↔ wp 145 21 [l0, l1, l2] [.inl 0, v0, v1] h Q := w_const1 dX9_takes_20 k_0
theorem s145_21  : wp 145 21 [l0, l1, l2] [.inl z, .inl x, v0] h Q ↔ wp 145 22 [l0, l1, l2] [.inl (w32 (x + z)), v0] h Q := wp_step dX9_takes_21 (fun _ => rfl)
theorem s145_22 (ha : tg a = 8) : wp 145 22 [l0, l1, l2] [.inl z, .inr a] (hp S D) Q ↔ wp 145 25 [l0, l1, l2] [] (hp S (up D a 8 z)) Q := w_put dX9_takes_22 (t := 8) (j := 8) (c := 0) (by decide +kernel) (by decide +kernel) (by decide) rfl (ln_ok (by decide) (by decide)) (Or.inl rfl) ha
theorem s145_25  : wp 145 25 [l0, l1, .inl x] [] h Q ↔ wp 145 26 [l0, l1, .inl x] [.inl x] h Q := wp_step dX9_takes_25 (fun _ => rfl)
theorem s145_26 (h0 : x = 0 ∨ x = 1) : wp 145 26 [l0, l1, l2] [.inl x] h Q ↔ Q (some (.inl x)) h := w_reti dX9_takes_26 (e_rz (by decide +kernel) h0)
theorem s146_0 (h0 : a ≠ 0) : wp 146 0 [.inr a, l1, l2] [] h Q ↔ wp 146 1 [.inr a, l1, l2] [.inr a] h Q := wp_step dX9_digit_0 (fun _ => if_neg h0)
theorem s146_1  : wp 146 1 [l0, .inl x, l2] [v0] h Q ↔ wp 146 2 [l0, .inl x, l2] [.inl x, v0] h Q := wp_step dX9_digit_1 (fun _ => rfl)
theorem s146_2  : wp 146 2 [l0, l1, .inl x] [v0, v1] h Q ↔ wp 146 3 [l0, l1, .inl x] [.inl x, v0, v1] h Q := wp_step dX9_digit_2 (fun _ => rfl)
theorem s146_3 (ha : tg a = 8) : wp 146 3 [l0, l1, l2] [p1, p0, .inr a] (hp S D) Q ↔ wp 144 0 [.inr a, p0, p1] [] (hp S D) (kont 146 6 [l0, l1, l2] [] Q) := w_callV (y2 := 144) (vs := [p0, p1]) (st := []) dX9_digit_3 (by decide +kernel) rfl (by decide +kernel) (Nat.le_of_ble_eq_true rfl) (by simp) 8 rfl (by decide) ha
theorem s146_6  : wp 146 6 [l0, l1, l2] [.inl x] h Q ↔ if x = 0 then wp 146 9 [l0, l1, l2] [] h Q else wp 146 12 [l0, l1, l2] [] h Q := w_ne0 dX9_digit_6 (by decide)
theorem s146_9  : wp 146 9 [l0, l1, l2] [] h Q ↔ wp 146 11 [l0, l1, l2] [.inl (-5)] h Q := w_const2 dX9_digit_9 k_m5 k8_m5
theorem s146_11  : wp 146 11 [l0, l1, l2] [.inl x] h Q ↔ Q (some (.inl x)) h := w_reti dX9_digit_11 (e_ri (by decide +kernel))
theorem s146_12 (h0 : a ≠ 0) : wp 146 12 [.inr a, l1, l2] [] h Q ↔ wp 146 13 [.inr a, l1, l2] [.inr a] h Q := wp_step dX9_digit_12 (fun _ => if_neg h0)
theorem s146_13  : wp 146 13 [l0, l1, l2] [p] h Q ↔ wp 146 14 [l0, l1, l2] [p, p] h Q := wp_step dX9_digit_13 (fun _ => rfl)
theorem s146_14 (ha : tg a = 8) : wp 146 14 [l0, l1, l2] [.inr a, v0] (hp S D) Q ↔ wp 146 17 [l0, l1, l2] [.inl (D a 8), v0] (hp S D) Q := w_getI dX9_digit_14 (t := 8) (j := 8) (c := 0) (by decide +kernel) (by decide) rfl (ln_ok (by decide) (by decide)) ha
theorem s146_17  : wp 146 17 [l0, l1, l2] [v0, v1] h Q ↔ wp 146 18 [l0, l1, l2] [.inl 1, v0, v1] h Q := w_const1 dX9_digit_17 k_1
theorem s146_18  : wp 146 18 [l0, l1, l2] [.inl z, .inl x, v0] h Q ↔ wp 146 19 [l0, l1, l2] [.inl (w32 (x + z)), v0] h Q := wp_step dX9_digit_18 (fun _ => rfl)
theorem s146_19 (ha : tg a = 8) : wp 146 19 [l0, l1, l2] [.inl z, .inr a] (hp S D) Q ↔ wp 146 22 [l0, l1, l2] [] (hp S (up D a 8 z)) Q := w_put dX9_digit_19 (t := 8) (j := 8) (c := 0) (by decide +kernel) (by decide +kernel) (by decide) rfl (ln_ok (by decide) (by decide)) (Or.inl rfl) ha
theorem s146_22 (h0 : a ≠ 0) : wp 146 22 [.inr a, l1, l2] [] h Q ↔ wp 146 23 [.inr a, l1, l2] [.inr a] h Q := wp_step dX9_digit_22 (fun _ => if_neg h0)
theorem s146_23 (ha : tg a = 8) : wp 146 23 [l0, l1, l2] [.inr a] (hp S D) Q ↔ wp 146 26 [l0, l1, l2] [.inr (a + 5)] (hp S D) Q := w_getR dX9_digit_23 (t := 8) (j := 6) (c := 2) (by decide +kernel) (by decide) rfl (ln_ok (by decide) (by decide)) ha
theorem s146_26 (h0 : a ≠ 0) : wp 146 26 [.inr a, l1, l2] [v0] h Q ↔ wp 146 27 [.inr a, l1, l2] [.inr a, v0] h Q := wp_step dX9_digit_26 (fun _ => if_neg h0)
theorem s146_27 (ha : tg a = 8) : wp 146 27 [l0, l1, l2] [.inr a, v0] (hp S D) Q ↔ wp 146 30 [l0, l1, l2] [.inl (D a 8), v0] (hp S D) Q := w_getI dX9_digit_27 (t := 8) (j := 8) (c := 0) (by decide +kernel) (by decide) rfl (ln_ok (by decide) (by decide)) ha
theorem s146_30  : wp 146 30 [l0, l1, l2] [v0, v1] h Q ↔ wp 146 31 [l0, l1, l2] [.inl 1, v0, v1] h Q := w_const1 dX9_digit_30 k_1
theorem s146_31  : wp 146 31 [l0, l1, l2] [.inl z, .inl x, v0] h Q ↔ wp 146 32 [l0, l1, l2] [.inl (w32 (x - z)), v0] h Q := wp_step dX9_digit_31 (fun _ => rfl)
theorem s146_32 (ha : tg a = 101) (h0 : 0 ≤ x) (h1 : x < ln S a) : wp 146 32 [l0, l1, l2] [.inl x, .inr a] (hp S D) Q ↔ wp 146 33 [l0, l1, l2] [.inl (D a x.toNat)] (hp S D) Q := w_cald dX9_digit_32 ha h0 h1
theorem s146_33  : wp 146 33 [l0, l1, l2] [v0] h Q ↔ wp 146 35 [l0, l1, l2] [.inl 48, v0] h Q := w_const2 dX9_digit_33 k_48 k8_48
theorem s146_35  : wp 146 35 [l0, l1, l2] [.inl z, .inl x] h Q ↔ wp 146 36 [l0, l1, l2] [.inl (w32 (x - z))] h Q := wp_step dX9_digit_35 (fun _ => rfl)
theorem s146_36  : wp 146 36 [l0, l1, l2] [.inl x] h Q ↔ Q (some (.inl x)) h := w_reti dX9_digit_36 (e_ri (by decide +kernel))
theorem s147_0 (h0 : a ≠ 0) : wp 147 0 [.inr a, l1, l2] [] h Q ↔ wp 147 1 [.inr a, l1, l2] [.inr a] h Q := wp_step dX9_number_0 (fun _ => if_neg h0)
theorem s147_1  : wp 147 1 [l0, l1, l2] [v0] h Q ↔ wp 147 3 [l0, l1, l2] [.inl 48, v0] h Q := w_const2 dX9_number_1 k_48 k8_48
theorem s147_3  : wp 147 3 [l0, l1, l2] [v0, v1] h Q ↔ wp 147 5 [l0, l1, l2] [.inl 57, v0, v1] h Q := w_const2 dX9_number_3 k_57 k8_57
theorem s147_5 (ha : tg a = 8) : wp 147 5 [l0, l1, l2] [p1, p0, .inr a] (hp S D) Q ↔ wp 146 0 [.inr a, p0, p1] [] (hp S D) (kont 147 8 [l0, l1, l2] [] Q) := w_callV (y2 := 146) (vs := [p0, p1]) (st := []) dX9_number_5 (by decide +kernel) rfl (by decide +kernel) (Nat.le_of_ble_eq_true rfl) (by simp) 8 rfl (by decide) ha
theorem s147_8  : wp 147 8 [l0, l1, l2] [.inl x] h Q ↔ wp 147 9 [l0, .inl x, l2] [] h Q := wp_step dX9_number_8 (fun _ => rfl)
theorem s147_9  : wp 147 9 [l0, l1, l2] [] h Q ↔ wp 147 10 [l0, l1, l2] [.inl 1] h Q := w_const1 dX9_number_9 k_1
theorem s147_10  : wp 147 10 [l0, l1, l2] [.inl x] h Q ↔ wp 147 11 [l0, l1, .inl x] [] h Q := wp_step dX9_number_10 (fun _ => rfl)
theorem s147_11  : wp 147 11 [l0, l1, .inl x] [] h Q ↔ wp 147 12 [l0, l1, .inl x] [.inl x] h Q := wp_step dX9_number_11 (fun _ => rfl)
theorem s147_12  : wp 147 12 [l0, l1, l2] [v0] h Q ↔ wp 147 13 [l0, l1, l2] [.inl 4, v0] h Q := w_const1 dX9_number_12 k_4
theorem s147_13  : wp 147 13 [l0, l1, l2] [.inl z, .inl x] h Q ↔ if x < z then wp 147 16 [l0, l1, l2] [] h Q else wp 147 51 [l0, l1, l2] [] h Q := w_cge dX9_number_13 (by decide)
theorem s147_16  : wp 147 16 [l0, .inl x, l2] [] h Q ↔ wp 147 17 [l0, .inl x, l2] [.inl x] h Q := wp_step dX9_number_16 (fun _ => rfl)
theorem s147_17  : wp 147 17 [l0, l1, l2] [.inl x] h Q ↔ if 0 < x then wp 147 20 [l0, l1, l2] [] h Q else wp 147 51 [l0, l1, l2] [] h Q := w_le0 dX9_number_17 (by decide)
theorem s147_20 (h0 : a ≠ 0) : wp 147 20 [.inr a, l1, l2] [] h Q ↔ wp 147 21 [.inr a, l1, l2] [.inr a] h Q := wp_step dX9_number_20 (fun _ => if_neg h0)
theorem s147_21  : wp 147 21 [l0, l1, l2] [v0] h Q ↔ wp 147 23 [l0, l1, l2] [.inl 48, v0] h Q := w_const2 dX9_number_21 k_48 k8_48
theorem s147_23  : wp 147 23 [l0, l1, l2] [v0, v1] h Q ↔ wp 147 25 [l0, l1, l2] [.inl 57, v0, v1] h Q := w_const2 dX9_number_23 k_57 k8_57
theorem s147_25 (ha : tg a = 8) : wp 147 25 [l0, l1, l2] [p1, p0, .inr a] (hp S D) Q ↔ wp 144 0 [.inr a, p0, p1] [] (hp S D) (kont 147 28 [l0, l1, l2] [] Q) := w_callV (y2 := 144) (vs := [p0, p1]) (st := []) dX9_number_25 (by decide +kernel) rfl (by decide +kernel) (Nat.le_of_ble_eq_true rfl) (by simp) 8 rfl (by decide) ha
theorem s147_28  : wp 147 28 [l0, l1, l2] [.inl x] h Q ↔ if x = 0 then wp 147 51 [l0, l1, l2] [] h Q else wp 147 31 [l0, l1, l2] [] h Q := w_eq0 dX9_number_28 (by decide)
theorem s147_31  : wp 147 31 [l0, l1, l2] [] h Q ↔ wp 147 33 [l0, l1, l2] [.inl 10] h Q := w_const2 dX9_number_31 k_10 k8_10
theorem s147_33  : wp 147 33 [l0, .inl x, l2] [v0] h Q ↔ wp 147 34 [l0, .inl x, l2] [.inl x, v0] h Q := wp_step dX9_number_33 (fun _ => rfl)
theorem s147_34  : wp 147 34 [l0, l1, l2] [.inl z, .inl x] h Q ↔ wp 147 35 [l0, l1, l2] [.inl (w32 (x * z))] h Q := wp_step dX9_number_34 (fun _ => rfl)
theorem s147_35 (h0 : a ≠ 0) : wp 147 35 [.inr a, l1, l2] [v0] h Q ↔ wp 147 36 [.inr a, l1, l2] [.inr a, v0] h Q := wp_step dX9_number_35 (fun _ => if_neg h0)
theorem s147_36  : wp 147 36 [l0, l1, l2] [v0, v1] h Q ↔ wp 147 38 [l0, l1, l2] [.inl 48, v0, v1] h Q := w_const2 dX9_number_36 k_48 k8_48
theorem s147_38  : wp 147 38 [l0, l1, l2] [v0, v1, v2] h Q ↔ wp 147 40 [l0, l1, l2] [.inl 57, v0, v1, v2] h Q := w_const2 dX9_number_38 k_57 k8_57
theorem s147_40 (ha : tg a = 8) : wp 147 40 [l0, l1, l2] [p1, p0, .inr a, v0] (hp S D) Q ↔ wp 146 0 [.inr a, p0, p1] [] (hp S D) (kont 147 43 [l0, l1, l2] [v0] Q) := w_callV (y2 := 146) (vs := [p0, p1]) (st := [v0]) dX9_number_40 (by decide +kernel) rfl (by decide +kernel) (Nat.le_of_ble_eq_true rfl) (by simp) 8 rfl (by decide) ha
theorem s147_43  : wp 147 43 [l0, l1, l2] [.inl z, .inl x] h Q ↔ wp 147 44 [l0, l1, l2] [.inl (w32 (x + z))] h Q := wp_step dX9_number_43 (fun _ => rfl)
theorem s147_44  : wp 147 44 [l0, l1, l2] [.inl x] h Q ↔ wp 147 45 [l0, .inl x, l2] [] h Q := wp_step dX9_number_44 (fun _ => rfl)
theorem s147_45  : wp 147 45 [l0, l1, .inl x] [] h Q ↔ wp 147 48 [l0, l1, .inl (w32 (x + 1))] [] h Q := wp_step dX9_number_45 (fun _ => rfl)
theorem s147_48  : wp 147 48 [l0, l1, l2] [] h Q ↔ wp 147 11 [l0, l1, l2] [] h Q := w_goto dX9_number_48 (by decide)
theorem s147_51  : wp 147 51 [l0, .inl x, l2] [] h Q ↔ wp 147 52 [l0, .inl x, l2] [.inl x] h Q := wp_step dX9_number_51 (fun _ => rfl)
theorem s147_52  : wp 147 52 [l0, l1, l2] [.inl x] h Q ↔ Q (some (.inl x)) h := w_reti dX9_number_52 (e_ri (by decide +kernel))
theorem s148_0 (h0 : a ≠ 0) : wp 148 0 [.inr a, l1, l2, l3] [] h Q ↔ wp 148 1 [.inr a, l1, l2, l3] [.inr a] h Q := wp_step dX9_readsBoat_0 (fun _ => if_neg h0)
theorem s148_1 (ha : tg a = 8) : wp 148 1 [l0, l1, l2, l3] [.inr a] (hp S D) Q ↔ wp 147 0 [.inr a, .inr 0, .inr 0] [] (hp S D) (kont 148 4 [l0, l1, l2, l3] [] Q) := w_callV (y2 := 147) (vs := []) (st := []) dX9_readsBoat_1 (by decide +kernel) rfl (by decide +kernel) (Nat.le_of_ble_eq_true rfl) (by simp) 8 rfl (by decide) ha
theorem s148_4  : wp 148 4 [l0, l1, l2, l3] [.inl x] h Q ↔ wp 148 5 [l0, .inl x, l2, l3] [] h Q := wp_step dX9_readsBoat_4 (fun _ => rfl)
theorem s148_5  : wp 148 5 [l0, .inl x, l2, l3] [] h Q ↔ wp 148 6 [l0, .inl x, l2, l3] [.inl x] h Q := wp_step dX9_readsBoat_5 (fun _ => rfl)
theorem s148_6  : wp 148 6 [l0, l1, l2, l3] [.inl x] h Q ↔ if x < 0 then wp 148 18 [l0, l1, l2, l3] [] h Q else wp 148 9 [l0, l1, l2, l3] [] h Q := w_lt0 dX9_readsBoat_6 (by decide)
theorem s148_9 (h0 : a ≠ 0) : wp 148 9 [.inr a, l1, l2, l3] [] h Q ↔ wp 148 10 [.inr a, l1, l2, l3] [.inr a] h Q := wp_step dX9_readsBoat_9 (fun _ => if_neg h0)
theorem s148_10  : wp 148 10 [l0, l1, l2, l3] [v0] h Q ↔ wp 148 12 [l0, l1, l2, l3] [.inl 58, v0] h Q := w_const2 dX9_readsBoat_10 k_58 k8_58
theorem s148_12 (ha : tg a = 8) : wp 148 12 [l0, l1, l2, l3] [p0, .inr a] (hp S D) Q ↔ wp 145 0 [.inr a, p0, .inr 0] [] (hp S D) (kont 148 15 [l0, l1, l2, l3] [] Q) := w_callV (y2 := 145) (vs := [p0]) (st := []) dX9_readsBoat_12 (by decide +kernel) rfl (by decide +kernel) (Nat.le_of_ble_eq_true rfl) (by simp) 8 rfl (by decide) ha
theorem s148_15  : wp 148 15 [l0, l1, l2, l3] [.inl x] h Q ↔ if x = 0 then wp 148 18 [l0, l1, l2, l3] [] h Q else wp 148 20 [l0, l1, l2, l3] [] h Q := w_ne0 dX9_readsBoat_15 (by decide)
theorem s148_18  : wp 148 18 [l0, l1, l2, l3] [] h Q ↔ wp 148 19 [l0, l1, l2, l3] [.inl 0] h Q := w_const1 dX9_readsBoat_18 k_0
theorem s148_19 (h0 : x = 0 ∨ x = 1) : wp 148 19 [l0, l1, l2, l3] [.inl x] h Q ↔ Q (some (.inl x)) h := w_reti dX9_readsBoat_19 (e_rz (by decide +kernel) h0)
theorem s148_20 (h0 : a ≠ 0) : wp 148 20 [.inr a, l1, l2, l3] [] h Q ↔ wp 148 21 [.inr a, l1, l2, l3] [.inr a] h Q := wp_step dX9_readsBoat_20 (fun _ => if_neg h0)
theorem s148_21  : wp 148 21 [l0, l1, l2, l3] [v0] h Q ↔ wp 148 23 [l0, l1, l2, l3] [.inl 48, v0] h Q := w_const2 dX9_readsBoat_21 k_48 k8_48
theorem s148_23  : wp 148 23 [l0, l1, l2, l3] [v0, v1] h Q ↔ wp 148 25 [l0, l1, l2, l3] [.inl 50, v0, v1] h Q := w_const2 dX9_readsBoat_23 k_50 k8_50
theorem s148_25 (ha : tg a = 8) : wp 148 25 [l0, l1, l2, l3] [p1, p0, .inr a] (hp S D) Q ↔ wp 146 0 [.inr a, p0, p1] [] (hp S D) (kont 148 28 [l0, l1, l2, l3] [] Q) := w_callV (y2 := 146) (vs := [p0, p1]) (st := []) dX9_readsBoat_25 (by decide +kernel) rfl (by decide +kernel) (Nat.le_of_ble_eq_true rfl) (by simp) 8 rfl (by decide) ha
theorem s148_28  : wp 148 28 [l0, l1, l2, l3] [.inl x] h Q ↔ wp 148 29 [l0, l1, .inl x, l3] [] h Q := wp_step dX9_readsBoat_28 (fun _ => rfl)
theorem s148_29  : wp 148 29 [l0, l1, .inl x, l3] [] h Q ↔ wp 148 30 [l0, l1, .inl x, l3] [.inl x] h Q := wp_step dX9_readsBoat_29 (fun _ => rfl)
theorem s148_30  : wp 148 30 [l0, l1, l2, l3] [.inl x] h Q ↔ if x < 0 then wp 148 42 [l0, l1, l2, l3] [] h Q else wp 148 33 [l0, l1, l2, l3] [] h Q := w_lt0 dX9_readsBoat_30 (by decide)
theorem s148_33 (h0 : a ≠ 0) : wp 148 33 [.inr a, l1, l2, l3] [] h Q ↔ wp 148 34 [.inr a, l1, l2, l3] [.inr a] h Q := wp_step dX9_readsBoat_33 (fun _ => if_neg h0)
theorem s148_34  : wp 148 34 [l0, l1, l2, l3] [v0] h Q ↔ wp 148 36 [l0, l1, l2, l3] [.inl 120, v0] h Q := w_const2 dX9_readsBoat_34 k_120 k8_120
theorem s148_36 (ha : tg a = 8) : wp 148 36 [l0, l1, l2, l3] [p0, .inr a] (hp S D) Q ↔ wp 145 0 [.inr a, p0, .inr 0] [] (hp S D) (kont 148 39 [l0, l1, l2, l3] [] Q) := w_callV (y2 := 145) (vs := [p0]) (st := []) dX9_readsBoat_36 (by decide +kernel) rfl (by decide +kernel) (Nat.le_of_ble_eq_true rfl) (by simp) 8 rfl (by decide) ha
theorem s148_39  : wp 148 39 [l0, l1, l2, l3] [.inl x] h Q ↔ if x = 0 then wp 148 42 [l0, l1, l2, l3] [] h Q else wp 148 44 [l0, l1, l2, l3] [] h Q := w_ne0 dX9_readsBoat_39 (by decide)
theorem s148_42  : wp 148 42 [l0, l1, l2, l3] [] h Q ↔ wp 148 43 [l0, l1, l2, l3] [.inl 0] h Q := w_const1 dX9_readsBoat_42 k_0
theorem s148_43 (h0 : x = 0 ∨ x = 1) : wp 148 43 [l0, l1, l2, l3] [.inl x] h Q ↔ Q (some (.inl x)) h := w_reti dX9_readsBoat_43 (e_rz (by decide +kernel) h0)
theorem s148_44 (h0 : a ≠ 0) : wp 148 44 [.inr a, l1, l2, l3] [] h Q ↔ wp 148 45 [.inr a, l1, l2, l3] [.inr a] h Q := wp_step dX9_readsBoat_44 (fun _ => if_neg h0)
theorem s148_45  : wp 148 45 [l0, l1, l2, l3] [v0] h Q ↔ wp 148 47 [l0, l1, l2, l3] [.inl 49, v0] h Q := w_const2 dX9_readsBoat_45 k_49 k8_49
theorem s148_47  : wp 148 47 [l0, l1, l2, l3] [v0, v1] h Q ↔ wp 148 49 [l0, l1, l2, l3] [.inl 54, v0, v1] h Q := w_const2 dX9_readsBoat_47 k_54 k8_54
theorem s148_49 (ha : tg a = 8) : wp 148 49 [l0, l1, l2, l3] [p1, p0, .inr a] (hp S D) Q ↔ wp 146 0 [.inr a, p0, p1] [] (hp S D) (kont 148 52 [l0, l1, l2, l3] [] Q) := w_callV (y2 := 146) (vs := [p0, p1]) (st := []) dX9_readsBoat_49 (by decide +kernel) rfl (by decide +kernel) (Nat.le_of_ble_eq_true rfl) (by simp) 8 rfl (by decide) ha
theorem s148_52  : wp 148 52 [l0, l1, l2, l3] [.inl x] h Q ↔ wp 148 53 [l0, l1, l2, .inl x] [] h Q := wp_step dX9_readsBoat_52 (fun _ => rfl)
theorem s148_53  : wp 148 53 [l0, l1, l2, .inl x] [] h Q ↔ wp 148 54 [l0, l1, l2, .inl x] [.inl x] h Q := wp_step dX9_readsBoat_53 (fun _ => rfl)
theorem s148_54  : wp 148 54 [l0, l1, l2, l3] [.inl x] h Q ↔ if x < 0 then wp 148 57 [l0, l1, l2, l3] [] h Q else wp 148 59 [l0, l1, l2, l3] [] h Q := w_ge0 dX9_readsBoat_54 (by decide)
theorem s148_57  : wp 148 57 [l0, l1, l2, l3] [] h Q ↔ wp 148 58 [l0, l1, l2, l3] [.inl 0] h Q := w_const1 dX9_readsBoat_57 k_0
theorem s148_58 (h0 : x = 0 ∨ x = 1) : wp 148 58 [l0, l1, l2, l3] [.inl x] h Q ↔ Q (some (.inl x)) h := w_reti dX9_readsBoat_58 (e_rz (by decide +kernel) h0)
theorem s148_59 (h0 : a ≠ 0) : wp 148 59 [.inr a, l1, l2, l3] [] h Q ↔ wp 148 60 [.inr a, l1, l2, l3] [.inr a] h Q := wp_step dX9_readsBoat_59 (fun _ => if_neg h0)
theorem s148_60 (ha : tg a = 8) : wp 148 60 [l0, l1, l2, l3] [.inr a] (hp S D) Q ↔ wp 148 63 [l0, l1, l2, l3] [.inr (a + 6)] (hp S D) Q := w_getR dX9_readsBoat_60 (t := 8) (j := 9) (c := 2) (by decide +kernel) (by decide) rfl (ln_ok (by decide) (by decide)) ha
theorem s148_63  : wp 148 63 [l0, l1, l2, l3] [v0] h Q ↔ wp 148 64 [l0, l1, l2, l3] [.inl 3, v0] h Q := w_const1 dX9_readsBoat_63 k_3
theorem s148_64 (h0 : a ≠ 0) : wp 148 64 [.inr a, l1, l2, l3] [v0, v1] h Q ↔ wp 148 65 [.inr a, l1, l2, l3] [.inr a, v0, v1] h Q := wp_step dX9_readsBoat_64 (fun _ => if_neg h0)
theorem s148_65 (ha : tg a = 8) : wp 148 65 [l0, l1, l2, l3] [.inr a, v0, v1] (hp S D) Q ↔ wp 148 68 [l0, l1, l2, l3] [.inl (D a 10), v0, v1] (hp S D) Q := w_getI dX9_readsBoat_65 (t := 8) (j := 10) (c := 0) (by decide +kernel) (by decide) rfl (ln_ok (by decide) (by decide)) ha
theorem s148_68  : wp 148 68 [l0, l1, l2, l3] [.inl z, .inl x, v0] h Q ↔ wp 148 69 [l0, l1, l2, l3] [.inl (w32 (x * z)), v0] h Q := wp_step dX9_readsBoat_68 (fun _ => rfl)
theorem s148_69  : wp 148 69 [l0, .inl x, l2, l3] [v0, v1] h Q ↔ wp 148 70 [l0, .inl x, l2, l3] [.inl x, v0, v1] h Q := wp_step dX9_readsBoat_69 (fun _ => rfl)
theorem s148_70 (ha : tg a = 100) (h8 : 8 ≤ a) (h0 : 0 ≤ x) (h1 : x < ln S a) : wp 148 70 [l0, l1, l2, l3] [.inl z, .inl x, .inr a] (hp S D) Q ↔ wp 148 71 [l0, l1, l2, l3] [] (hp S (up D a x.toNat z)) Q := w_iast dX9_readsBoat_70 ha h8 h0 h1
theorem s148_71 (h0 : a ≠ 0) : wp 148 71 [.inr a, l1, l2, l3] [] h Q ↔ wp 148 72 [.inr a, l1, l2, l3] [.inr a] h Q := wp_step dX9_readsBoat_71 (fun _ => if_neg h0)
theorem s148_72 (ha : tg a = 8) : wp 148 72 [l0, l1, l2, l3] [.inr a] (hp S D) Q ↔ wp 148 75 [l0, l1, l2, l3] [.inr (a + 6)] (hp S D) Q := w_getR dX9_readsBoat_72 (t := 8) (j := 9) (c := 2) (by decide +kernel) (by decide) rfl (ln_ok (by decide) (by decide)) ha
theorem s148_75  : wp 148 75 [l0, l1, l2, l3] [v0] h Q ↔ wp 148 76 [l0, l1, l2, l3] [.inl 3, v0] h Q := w_const1 dX9_readsBoat_75 k_3
theorem s148_76 (h0 : a ≠ 0) : wp 148 76 [.inr a, l1, l2, l3] [v0, v1] h Q ↔ wp 148 77 [.inr a, l1, l2, l3] [.inr a, v0, v1] h Q := wp_step dX9_readsBoat_76 (fun _ => if_neg h0)
theorem s148_77 (ha : tg a = 8) : wp 148 77 [l0, l1, l2, l3] [.inr a, v0, v1] (hp S D) Q ↔ wp 148 80 [l0, l1, l2, l3] [.inl (D a 10), v0, v1] (hp S D) Q := w_getI dX9_readsBoat_77 (t := 8) (j := 10) (c := 0) (by decide +kernel) (by decide) rfl (ln_ok (by decide) (by decide)) ha
theorem s148_80  : wp 148 80 [l0, l1, l2, l3] [.inl z, .inl x, v0] h Q ↔ wp 148 81 [l0, l1, l2, l3] [.inl (w32 (x * z)), v0] h Q := wp_step dX9_readsBoat_80 (fun _ => rfl)
theorem s148_81  : wp 148 81 [l0, l1, l2, l3] [v0, v1] h Q ↔ wp 148 82 [l0, l1, l2, l3] [.inl 1, v0, v1] h Q := w_const1 dX9_readsBoat_81 k_1
theorem s148_82  : wp 148 82 [l0, l1, l2, l3] [.inl z, .inl x, v0] h Q ↔ wp 148 83 [l0, l1, l2, l3] [.inl (w32 (x + z)), v0] h Q := wp_step dX9_readsBoat_82 (fun _ => rfl)
theorem s148_83  : wp 148 83 [l0, l1, .inl x, l3] [v0, v1] h Q ↔ wp 148 84 [l0, l1, .inl x, l3] [.inl x, v0, v1] h Q := wp_step dX9_readsBoat_83 (fun _ => rfl)
theorem s148_84 (ha : tg a = 100) (h8 : 8 ≤ a) (h0 : 0 ≤ x) (h1 : x < ln S a) : wp 148 84 [l0, l1, l2, l3] [.inl z, .inl x, .inr a] (hp S D) Q ↔ wp 148 85 [l0, l1, l2, l3] [] (hp S (up D a x.toNat z)) Q := w_iast dX9_readsBoat_84 ha h8 h0 h1
theorem s148_85 (h0 : a ≠ 0) : wp 148 85 [.inr a, l1, l2, l3] [] h Q ↔ wp 148 86 [.inr a, l1, l2, l3] [.inr a] h Q := wp_step dX9_readsBoat_85 (fun _ => if_neg h0)
theorem s148_86 (ha : tg a = 8) : wp 148 86 [l0, l1, l2, l3] [.inr a] (hp S D) Q ↔ wp 148 89 [l0, l1, l2, l3] [.inr (a + 6)] (hp S D) Q := w_getR dX9_readsBoat_86 (t := 8) (j := 9) (c := 2) (by decide +kernel) (by decide) rfl (ln_ok (by decide) (by decide)) ha
theorem s148_89  : wp 148 89 [l0, l1, l2, l3] [v0] h Q ↔ wp 148 90 [l0, l1, l2, l3] [.inl 3, v0] h Q := w_const1 dX9_readsBoat_89 k_3
theorem s148_90 (h0 : a ≠ 0) : wp 148 90 [.inr a, l1, l2, l3] [v0, v1] h Q ↔ wp 148 91 [.inr a, l1, l2, l3] [.inr a, v0, v1] h Q := wp_step dX9_readsBoat_90 (fun _ => if_neg h0)
theorem s148_91 (ha : tg a = 8) : wp 148 91 [l0, l1, l2, l3] [.inr a, v0, v1] (hp S D) Q ↔ wp 148 94 [l0, l1, l2, l3] [.inl (D a 10), v0, v1] (hp S D) Q := w_getI dX9_readsBoat_91 (t := 8) (j := 10) (c := 0) (by decide +kernel) (by decide) rfl (ln_ok (by decide) (by decide)) ha
theorem s148_94  : wp 148 94 [l0, l1, l2, l3] [.inl z, .inl x, v0] h Q ↔ wp 148 95 [l0, l1, l2, l3] [.inl (w32 (x * z)), v0] h Q := wp_step dX9_readsBoat_94 (fun _ => rfl)
theorem s148_95  : wp 148 95 [l0, l1, l2, l3] [v0, v1] h Q ↔ wp 148 96 [l0, l1, l2, l3] [.inl 2, v0, v1] h Q := w_const1 dX9_readsBoat_95 k_2
theorem s148_96  : wp 148 96 [l0, l1, l2, l3] [.inl z, .inl x, v0] h Q ↔ wp 148 97 [l0, l1, l2, l3] [.inl (w32 (x + z)), v0] h Q := wp_step dX9_readsBoat_96 (fun _ => rfl)
theorem s148_97  : wp 148 97 [l0, l1, l2, .inl x] [v0, v1] h Q ↔ wp 148 98 [l0, l1, l2, .inl x] [.inl x, v0, v1] h Q := wp_step dX9_readsBoat_97 (fun _ => rfl)
theorem s148_98 (ha : tg a = 100) (h8 : 8 ≤ a) (h0 : 0 ≤ x) (h1 : x < ln S a) : wp 148 98 [l0, l1, l2, l3] [.inl z, .inl x, .inr a] (hp S D) Q ↔ wp 148 99 [l0, l1, l2, l3] [] (hp S (up D a x.toNat z)) Q := w_iast dX9_readsBoat_98 ha h8 h0 h1
theorem s148_99 (h0 : a ≠ 0) : wp 148 99 [.inr a, l1, l2, l3] [] h Q ↔ wp 148 100 [.inr a, l1, l2, l3] [.inr a] h Q := wp_step dX9_readsBoat_99 (fun _ => if_neg h0)
theorem s148_100  : wp 148 100 [l0, l1, l2, l3] [p] h Q ↔ wp 148 101 [l0, l1, l2, l3] [p, p] h Q := wp_step dX9_readsBoat_100 (fun _ => rfl)
theorem s148_101 (ha : tg a = 8) : wp 148 101 [l0, l1, l2, l3] [.inr a, v0] (hp S D) Q ↔ wp 148 104 [l0, l1, l2, l3] [.inl (D a 10), v0] (hp S D) Q := w_getI dX9_readsBoat_101 (t := 8) (j := 10) (c := 0) (by decide +kernel) (by decide) rfl (ln_ok (by decide) (by decide)) ha
theorem s148_104  : wp 148 104 [l0, l1, l2, l3] [v0, v1] h Q ↔ wp 148 105 [l0, l1, l2, l3] [.inl 1, v0, v1] h Q := w_const1 dX9_readsBoat_104 k_1
theorem s148_105  : wp 148 105 [l0, l1, l2, l3] [.inl z, .inl x, v0] h Q ↔ wp 148 106 [l0, l1, l2, l3] [.inl (w32 (x + z)), v0] h Q := wp_step dX9_readsBoat_105 (fun _ => rfl)
theorem s148_106 (ha : tg a = 8) : wp 148 106 [l0, l1, l2, l3] [.inl z, .inr a] (hp S D) Q ↔ wp 148 109 [l0, l1, l2, l3] [] (hp S (up D a 10 z)) Q := w_put dX9_readsBoat_106 (t := 8) (j := 10) (c := 0) (by decide +kernel) (by decide +kernel) (by decide) rfl (ln_ok (by decide) (by decide)) (Or.inl rfl) ha
theorem s148_109  : wp 148 109 [l0, l1, l2, l3] [] h Q ↔ wp 148 110 [l0, l1, l2, l3] [.inl 1] h Q := w_const1 dX9_readsBoat_109 k_1
theorem s148_110 (h0 : x = 0 ∨ x = 1) : wp 148 110 [l0, l1, l2, l3] [.inl x] h Q ↔ Q (some (.inl x)) h := w_reti dX9_readsBoat_110 (e_rz (by decide +kernel) h0)
theorem s149_0 (h0 : a ≠ 0) : wp 149 0 [.inr a, l1] [] h Q ↔ wp 149 1 [.inr a, l1] [.inr a] h Q := wp_step dX9_isText_0 (fun _ => if_neg h0)
theorem s149_1  : wp 149 1 [l0, l1] [v0] h Q ↔ wp 149 2 [l0, l1] [.inl 0, v0] h Q := w_const1 dX9_isText_1 k_0
theorem s149_2 (ha : tg a = 8) : wp 149 2 [l0, l1] [.inl z, .inr a] (hp S D) Q ↔ wp 149 5 [l0, l1] [] (hp S (up D a 8 z)) Q := w_put dX9_isText_2 (t := 8) (j := 8) (c := 0) (by decide +kernel) (by decide +kernel) (by decide) rfl (ln_ok (by decide) (by decide)) (Or.inl rfl) ha
theorem s149_5 (h0 : a ≠ 0) : wp 149 5 [.inr a, l1] [] h Q ↔ wp 149 6 [.inr a, l1] [.inr a] h Q := wp_step dX9_isText_5 (fun _ => if_neg h0)
theorem s149_6  : wp 149 6 [l0, l1] [v0] h Q ↔ wp 149 7 [l0, l1] [.inl 0, v0] h Q := w_const1 dX9_isText_6 k_0
theorem s149_7 (ha : tg a = 8) : wp 149 7 [l0, l1] [.inl z, .inr a] (hp S D) Q ↔ wp 149 10 [l0, l1] [] (hp S (up D a 10 z)) Q := w_put dX9_isText_7 (t := 8) (j := 10) (c := 0) (by decide +kernel) (by decide +kernel) (by decide) rfl (ln_ok (by decide) (by decide)) (Or.inl rfl) ha
theorem s149_10  : wp 149 10 [l0, l1] [] h Q ↔ wp 149 11 [l0, l1] [.inl 1] h Q := w_const1 dX9_isText_10 k_1
theorem s149_11  : wp 149 11 [l0, l1] [.inl x] h Q ↔ wp 149 12 [l0, .inl x] [] h Q := wp_step dX9_isText_11 (fun _ => rfl)
theorem s149_12  : wp 149 12 [l0, .inl x] [] h Q ↔ wp 149 13 [l0, .inl x] [.inl x] h Q := wp_step dX9_isText_12 (fun _ => rfl)
theorem s149_13  : wp 149 13 [l0, l1] [.inl x] h Q ↔ if x = 0 then wp 149 35 [l0, l1] [] h Q else wp 149 16 [l0, l1] [] h Q := w_eq0 dX9_isText_13 (by decide)
theorem s149_16 (h0 : a ≠ 0) : wp 149 16 [.inr a, l1] [] h Q ↔ wp 149 17 [.inr a, l1] [.inr a] h Q := wp_step dX9_isText_16 (fun _ => if_neg h0)
theorem s149_17 (ha : tg a = 8) : wp 149 17 [l0, l1] [.inr a] (hp S D) Q ↔ wp 148 0 [.inr a, .inr 0, .inr 0, .inr 0] [] (hp S D) (kont 149 20 [l0, l1] [] Q) := w_callV (y2 := 148) (vs := []) (st := []) dX9_isText_17 (by decide +kernel) rfl (by decide +kernel) (Nat.le_of_ble_eq_true rfl) (by simp) 8 rfl (by decide) ha
theorem s149_20  : wp 149 20 [l0, l1] [.inl x] h Q ↔ if x = 0 then wp 149 23 [l0, l1] [] h Q else wp 149 25 [l0, l1] [] h Q := w_ne0 dX9_isText_20 (by decide)
theorem s149_23  : wp 149 23 [l0, l1] [] h Q ↔ wp 149 24 [l0, l1] [.inl 0] h Q := w_const1 dX9_isText_23 k_0
theorem s149_24 (h0 : x = 0 ∨ x = 1) : wp 149 24 [l0, l1] [.inl x] h Q ↔ Q (some (.inl x)) h := w_reti dX9_isText_24 (e_rz (by decide +kernel) h0)
theorem s149_25 (h0 : a ≠ 0) : wp 149 25 [.inr a, l1] [] h Q ↔ wp 149 26 [.inr a, l1] [.inr a] h Q := wp_step dX9_isText_25 (fun _ => if_neg h0)
theorem s149_26  : wp 149 26 [l0, l1] [v0] h Q ↔ wp 149 28 [l0, l1] [.inl 44, v0] h Q := w_const2 dX9_isText_26 k_44 k8_44
theorem s149_28 (ha : tg a = 8) : wp 149 28 [l0, l1] [p0, .inr a] (hp S D) Q ↔ wp 145 0 [.inr a, p0, .inr 0] [] (hp S D) (kont 149 31 [l0, l1] [] Q) := w_callV (y2 := 145) (vs := [p0]) (st := []) dX9_isText_28 (by decide +kernel) rfl (by decide +kernel) (Nat.le_of_ble_eq_true rfl) (by simp) 8 rfl (by decide) ha
theorem s149_31  : wp 149 31 [l0, l1] [.inl x] h Q ↔ wp 149 32 [l0, .inl x] [] h Q := wp_step dX9_isText_31 (fun _ => rfl)
theorem s149_32  : wp 149 32 [l0, l1] [] h Q ↔ wp 149 12 [l0, l1] [] h Q := w_goto dX9_isText_32 (by decide)
theorem s149_35 (h0 : a ≠ 0) : wp 149 35 [.inr a, l1] [] h Q ↔ wp 149 36 [.inr a, l1] [.inr a] h Q := wp_step dX9_isText_35 (fun _ => if_neg h0)
theorem s149_36 (ha : tg a = 8) : wp 149 36 [l0, l1] [.inr a] (hp S D) Q ↔ wp 149 39 [l0, l1] [.inl (D a 8)] (hp S D) Q := w_getI dX9_isText_36 (t := 8) (j := 8) (c := 0) (by decide +kernel) (by decide) rfl (ln_ok (by decide) (by decide)) ha
theorem s149_39 (h0 : a ≠ 0) : wp 149 39 [.inr a, l1] [v0] h Q ↔ wp 149 40 [.inr a, l1] [.inr a, v0] h Q := wp_step dX9_isText_39 (fun _ => if_neg h0)
theorem s149_40 (ha : tg a = 8) : wp 149 40 [l0, l1] [.inr a, v0] (hp S D) Q ↔ wp 149 43 [l0, l1] [.inl (D a 7), v0] (hp S D) Q := w_getI dX9_isText_40 (t := 8) (j := 7) (c := 0) (by decide +kernel) (by decide) rfl (ln_ok (by decide) (by decide)) ha
theorem s149_43  : wp 149 43 [l0, l1] [.inl z, .inl x] h Q ↔ if x = z then wp 149 46 [l0, l1] [] h Q else wp 149 50 [l0, l1] [] h Q := w_cne dX9_isText_43 (by decide)
theorem s149_46  : wp 149 46 [l0, l1] [] h Q ↔ wp 149 47 [l0, l1] [.inl 1] h Q := w_const1 dX9_isText_46 k_1
theorem s149_47  : wp 149 47 [l0, l1] [v0] h Q ↔ wp 149 51 [l0, l1] [v0] h Q := w_goto dX9_isText_47 (by decide)
theorem s149_50  : wp 149 50 [l0, l1] [] h Q ↔ wp 149 51 [l0, l1] [.inl 0] h Q := w_const1 dX9_isText_50 k_0
theorem s149_51 (h0 : x = 0 ∨ x = 1) : wp 149 51 [l0, l1] [.inl x] h Q ↔ Q (some (.inl x)) h := w_reti dX9_isText_51 (e_rz (by decide +kernel) h0)
theorem s150_0  : wp 150 0 [l0, l1, l2, l3, l4] [] h Q ↔ wp 150 1 [l0, l1, l2, l3, l4] [.inl 0] h Q := w_const1 dX9_unlike_0 k_0
theorem s150_1  : wp 150 1 [l0, l1, l2, l3, l4] [.inl x] h Q ↔ wp 150 2 [l0, .inl x, l2, l3, l4] [] h Q := wp_step dX9_unlike_1 (fun _ => rfl)
theorem s150_2  : wp 150 2 [l0, l1, l2, l3, l4] [] h Q ↔ wp 150 3 [l0, l1, l2, l3, l4] [.inl 0] h Q := w_const1 dX9_unlike_2 k_0
theorem s150_3  : wp 150 3 [l0, l1, l2, l3, l4] [.inl x] h Q ↔ wp 150 4 [l0, l1, .inl x, l3, l4] [] h Q := wp_step dX9_unlike_3 (fun _ => rfl)
theorem s150_4  : wp 150 4 [l0, l1, .inl x, l3, l4] [] h Q ↔ wp 150 5 [l0, l1, .inl x, l3, l4] [.inl x] h Q := wp_step dX9_unlike_4 (fun _ => rfl)
theorem s150_5 (h0 : a ≠ 0) : wp 150 5 [.inr a, l1, l2, l3, l4] [v0] h Q ↔ wp 150 6 [.inr a, l1, l2, l3, l4] [.inr a, v0] h Q := wp_step dX9_unlike_5 (fun _ => if_neg h0)
theorem s150_6 (ha : tg a = 8) : wp 150 6 [l0, l1, l2, l3, l4] [.inr a, v0] (hp S D) Q ↔ wp 150 9 [l0, l1, l2, l3, l4] [.inl (D a 10), v0] (hp S D) Q := w_getI dX9_unlike_6 (t := 8) (j := 10) (c := 0) (by decide +kernel) (by decide) rfl (ln_ok (by decide) (by decide)) ha
theorem s150_9  : wp 150 9 [l0, l1, l2, l3, l4] [.inl z, .inl x] h Q ↔ if x < z then wp 150 12 [l0, l1, l2, l3, l4] [] h Q else wp 150 77 [l0, l1, l2, l3, l4] [] h Q := w_cge dX9_unlike_9 (by decide)
theorem s150_12  : wp 150 12 [l0, l1, l2, l3, l4] [] h Q ↔ wp 150 13 [l0, l1, l2, l3, l4] [.inl 1] h Q := w_const1 dX9_unlike_12 k_1
theorem s150_13  : wp 150 13 [l0, l1, l2, l3, l4] [.inl x] h Q ↔ wp 150 14 [l0, l1, l2, .inl x, l4] [] h Q := wp_step dX9_unlike_13 (fun _ => rfl)
theorem s150_14  : wp 150 14 [l0, l1, l2, l3, l4] [] h Q ↔ wp 150 15 [l0, l1, l2, l3, l4] [.inl 0] h Q := w_const1 dX9_unlike_14 k_0
theorem s150_15  : wp 150 15 [l0, l1, l2, l3, l4] [.inl x] h Q ↔ wp 150 17 [l0, l1, l2, l3, .inl x] [] h Q := wp_step dX9_unlike_15 (fun _ => rfl)
theorem s150_17  : wp 150 17 [l0, l1, l2, l3, .inl x] [] h Q ↔ wp 150 19 [l0, l1, l2, l3, .inl x] [.inl x] h Q := wp_step dX9_unlike_17 (fun _ => rfl)
theorem s150_19  : wp 150 19 [l0, l1, .inl x, l3, l4] [v0] h Q ↔ wp 150 20 [l0, l1, .inl x, l3, l4] [.inl x, v0] h Q := wp_step dX9_unlike_19 (fun _ => rfl)
theorem s150_20  : wp 150 20 [l0, l1, l2, l3, l4] [.inl z, .inl x] h Q ↔ if x < z then wp 150 23 [l0, l1, l2, l3, l4] [] h Q else wp 150 59 [l0, l1, l2, l3, l4] [] h Q := w_cge dX9_unlike_20 (by decide)
theorem s150_23  : wp 150 23 [l0, l1, l2, .inl x, l4] [] h Q ↔ wp 150 24 [l0, l1, l2, .inl x, l4] [.inl x] h Q := wp_step dX9_unlike_23 (fun _ => rfl)
theorem s150_24  : wp 150 24 [l0, l1, l2, l3, l4] [.inl x] h Q ↔ if x = 0 then wp 150 51 [l0, l1, l2, l3, l4] [] h Q else wp 150 27 [l0, l1, l2, l3, l4] [] h Q := w_eq0 dX9_unlike_24 (by decide)
theorem s150_27 (h0 : a ≠ 0) : wp 150 27 [.inr a, l1, l2, l3, l4] [] h Q ↔ wp 150 28 [.inr a, l1, l2, l3, l4] [.inr a] h Q := wp_step dX9_unlike_27 (fun _ => if_neg h0)
theorem s150_28 (ha : tg a = 8) : wp 150 28 [l0, l1, l2, l3, l4] [.inr a] (hp S D) Q ↔ wp 150 31 [l0, l1, l2, l3, l4] [.inr (a + 6)] (hp S D) Q := w_getR dX9_unlike_28 (t := 8) (j := 9) (c := 2) (by decide +kernel) (by decide) rfl (ln_ok (by decide) (by decide)) ha
theorem s150_31  : wp 150 31 [l0, l1, l2, l3, l4] [v0] h Q ↔ wp 150 32 [l0, l1, l2, l3, l4] [.inl 3, v0] h Q := w_const1 dX9_unlike_31 k_3
theorem s150_32  : wp 150 32 [l0, l1, l2, l3, .inl x] [v0, v1] h Q ↔ wp 150 34 [l0, l1, l2, l3, .inl x] [.inl x, v0, v1] h Q := wp_step dX9_unlike_32 (fun _ => rfl)
theorem s150_34  : wp 150 34 [l0, l1, l2, l3, l4] [.inl z, .inl x, v0] h Q ↔ wp 150 35 [l0, l1, l2, l3, l4] [.inl (w32 (x * z)), v0] h Q := wp_step dX9_unlike_34 (fun _ => rfl)
theorem s150_35 (ha : tg a = 100) (h0 : 0 ≤ x) (h1 : x < ln S a) : wp 150 35 [l0, l1, l2, l3, l4] [.inl x, .inr a] (hp S D) Q ↔ wp 150 36 [l0, l1, l2, l3, l4] [.inl (rd S D a x.toNat)] (hp S D) Q := w_iald dX9_unlike_35 ha h0 h1
theorem s150_36 (h0 : a ≠ 0) : wp 150 36 [.inr a, l1, l2, l3, l4] [v0] h Q ↔ wp 150 37 [.inr a, l1, l2, l3, l4] [.inr a, v0] h Q := wp_step dX9_unlike_36 (fun _ => if_neg h0)
theorem s150_37 (ha : tg a = 8) : wp 150 37 [l0, l1, l2, l3, l4] [.inr a, v0] (hp S D) Q ↔ wp 150 40 [l0, l1, l2, l3, l4] [.inr (a + 6), v0] (hp S D) Q := w_getR dX9_unlike_37 (t := 8) (j := 9) (c := 2) (by decide +kernel) (by decide) rfl (ln_ok (by decide) (by decide)) ha
theorem s150_40  : wp 150 40 [l0, l1, l2, l3, l4] [v0, v1] h Q ↔ wp 150 41 [l0, l1, l2, l3, l4] [.inl 3, v0, v1] h Q := w_const1 dX9_unlike_40 k_3
theorem s150_41  : wp 150 41 [l0, l1, .inl x, l3, l4] [v0, v1, v2] h Q ↔ wp 150 42 [l0, l1, .inl x, l3, l4] [.inl x, v0, v1, v2] h Q := wp_step dX9_unlike_41 (fun _ => rfl)
theorem s150_42  : wp 150 42 [l0, l1, l2, l3, l4] [.inl z, .inl x, v0, v1] h Q ↔ wp 150 43 [l0, l1, l2, l3, l4] [.inl (w32 (x * z)), v0, v1] h Q := wp_step dX9_unlike_42 (fun _ => rfl)
theorem s150_43 (ha : tg a = 100) (h0 : 0 ≤ x) (h1 : x < ln S a) : wp 150 43 [l0, l1, l2, l3, l4] [.inl x, .inr a, v0] (hp S D) Q ↔ wp 150 44 [l0, l1, l2, l3, l4] [.inl (rd S D a x.toNat), v0] (hp S D) Q := w_iald dX9_unlike_43 ha h0 h1
theorem s150_44  : wp 150 44 [l0, l1, l2, l3, l4] [.inl z, .inl x] h Q ↔ if x = z then wp 150 51 [l0, l1, l2, l3, l4] [] h Q else wp 150 47 [l0, l1, l2, l3, l4] [] h Q := w_ceq dX9_unlike_44 (by decide)
theorem s150_47  : wp 150 47 [l0, l1, l2, l3, l4] [] h Q ↔ wp 150 48 [l0, l1, l2, l3, l4] [.inl 1] h Q := w_const1 dX9_unlike_47 k_1
theorem s150_48  : wp 150 48 [l0, l1, l2, l3, l4] [v0] h Q ↔ wp 150 52 [l0, l1, l2, l3, l4] [v0] h Q := w_goto dX9_unlike_48 (by decide)
theorem s150_51  : wp 150 51 [l0, l1, l2, l3, l4] [] h Q ↔ wp 150 52 [l0, l1, l2, l3, l4] [.inl 0] h Q := w_const1 dX9_unlike_51 k_0
theorem s150_52  : wp 150 52 [l0, l1, l2, l3, l4] [.inl x] h Q ↔ wp 150 53 [l0, l1, l2, .inl x, l4] [] h Q := wp_step dX9_unlike_52 (fun _ => rfl)
theorem s150_53  : wp 150 53 [l0, l1, l2, l3, .inl x] [] h Q ↔ wp 150 56 [l0, l1, l2, l3, .inl (w32 (x + 1))] [] h Q := wp_step dX9_unlike_53 (fun _ => rfl)
theorem s150_56  : wp 150 56 [l0, l1, l2, l3, l4] [] h Q ↔ wp 150 17 [l0, l1, l2, l3, l4] [] h Q := w_goto dX9_unlike_56 (by decide)
theorem s150_59  : wp 150 59 [l0, .inl x, l2, l3, l4] [] h Q ↔ wp 150 60 [l0, .inl x, l2, l3, l4] [.inl x] h Q := wp_step dX9_unlike_59 (fun _ => rfl)
theorem s150_60  : wp 150 60 [l0, l1, l2, .inl x, l4] [v0] h Q ↔ wp 150 61 [l0, l1, l2, .inl x, l4] [.inl x, v0] h Q := wp_step dX9_unlike_60 (fun _ => rfl)
theorem s150_61  : wp 150 61 [l0, l1, l2, l3, l4] [.inl x, v0] h Q ↔ if x = 0 then wp 150 68 [l0, l1, l2, l3, l4] [v0] h Q else wp 150 64 [l0, l1, l2, l3, l4] [v0] h Q := w_eq0 dX9_unlike_61 (by decide)
theorem s150_64  : wp 150 64 [l0, l1, l2, l3, l4] [v0] h Q ↔ wp 150 65 [l0, l1, l2, l3, l4] [.inl 1, v0] h Q := w_const1 dX9_unlike_64 k_1
theorem s150_65  : wp 150 65 [l0, l1, l2, l3, l4] [v0, v1] h Q ↔ wp 150 69 [l0, l1, l2, l3, l4] [v0, v1] h Q := w_goto dX9_unlike_65 (by decide)
theorem s150_68  : wp 150 68 [l0, l1, l2, l3, l4] [v0] h Q ↔ wp 150 69 [l0, l1, l2, l3, l4] [.inl 0, v0] h Q := w_const1 dX9_unlike_68 k_0
theorem s150_69  : wp 150 69 [l0, l1, l2, l3, l4] [.inl z, .inl x] h Q ↔ wp 150 70 [l0, l1, l2, l3, l4] [.inl (w32 (x + z))] h Q := wp_step dX9_unlike_69 (fun _ => rfl)
theorem s150_70  : wp 150 70 [l0, l1, l2, l3, l4] [.inl x] h Q ↔ wp 150 71 [l0, .inl x, l2, l3, l4] [] h Q := wp_step dX9_unlike_70 (fun _ => rfl)
theorem s150_71  : wp 150 71 [l0, l1, .inl x, l3, l4] [] h Q ↔ wp 150 74 [l0, l1, .inl (w32 (x + 1)), l3, l4] [] h Q := wp_step dX9_unlike_71 (fun _ => rfl)
theorem s150_74  : wp 150 74 [l0, l1, l2, l3, l4] [] h Q ↔ wp 150 4 [l0, l1, l2, l3, l4] [] h Q := w_goto dX9_unlike_74 (by decide)
theorem s150_77  : wp 150 77 [l0, .inl x, l2, l3, l4] [] h Q ↔ wp 150 78 [l0, .inl x, l2, l3, l4] [.inl x] h Q := wp_step dX9_unlike_77 (fun _ => rfl)
theorem s150_78  : wp 150 78 [l0, l1, l2, l3, l4] [.inl x] h Q ↔ Q (some (.inl x)) h := w_reti dX9_unlike_78 (e_ri (by decide +kernel))
end ESTEP
