section ESTEP
variable {l0 l1 l2 l3 l4 l5 l6 v0 v1 v2 v3 v4 v5 v6 v7 p q p0 p1 p2 p3 : eV} {a : Nat} {x z : Int} {h : eH} {Q : Option eV → eH → Prop} {S : List Int} {D : eD}
theorem s151_0 (h0 : a ≠ 0) : wp 151 0 [.inr a, l1] [] h Q ↔ wp 151 1 [.inr a, l1] [.inr a] h Q := wp_step dX9_readPlan_0 (fun _ => if_neg h0)
theorem s151_1 (ha : tg a = 8) : wp 151 1 [l0, l1] [.inr a] (hp S D) Q ↔ wp 149 0 [.inr a, .inr 0] [] (hp S D) (kont 151 4 [l0, l1] [] Q) := w_callV (y2 := 149) (vs := []) (st := []) dX9_readPlan_1 (by decide +kernel) rfl (by decide +kernel) (Nat.le_of_ble_eq_true rfl) (by simp) 8 rfl (by decide) ha
theorem s151_4  : wp 151 4 [l0, l1] [.inl x] h Q ↔ if x = 0 then wp 151 7 [l0, l1] [] h Q else wp 151 15 [l0, l1] [] h Q := w_ne0 dX9_readPlan_4 (by decide)
theorem s151_7  : wp 151 7 [l0, l1] [] h Q ↔ wp 151 9 [l0, l1] [.inl (-100)] h Q := w_const2 dX9_readPlan_7 k_m100 k8_m100
theorem s151_9 (h0 : a ≠ 0) : wp 151 9 [.inr a, l1] [v0] h Q ↔ wp 151 10 [.inr a, l1] [.inr a, v0] h Q := wp_step dX9_readPlan_9 (fun _ => if_neg h0)
theorem s151_10 (ha : tg a = 8) : wp 151 10 [l0, l1] [.inr a, v0] (hp S D) Q ↔ wp 151 13 [l0, l1] [.inl (D a 8), v0] (hp S D) Q := w_getI dX9_readPlan_10 (t := 8) (j := 8) (c := 0) (by decide +kernel) (by decide) rfl (ln_ok (by decide) (by decide)) ha
theorem s151_13  : wp 151 13 [l0, l1] [.inl z, .inl x] h Q ↔ wp 151 14 [l0, l1] [.inl (w32 (x - z))] h Q := wp_step dX9_readPlan_13 (fun _ => rfl)
theorem s151_14  : wp 151 14 [l0, l1] [.inl x] h Q ↔ Q (some (.inl x)) h := w_reti dX9_readPlan_14 (e_ri (by decide +kernel))
theorem s151_15 (h0 : a ≠ 0) : wp 151 15 [.inr a, l1] [] h Q ↔ wp 151 16 [.inr a, l1] [.inr a] h Q := wp_step dX9_readPlan_15 (fun _ => if_neg h0)
theorem s151_16 (ha : tg a = 8) : wp 151 16 [l0, l1] [.inr a] (hp S D) Q ↔ wp 150 0 [.inr a, .inr 0, .inr 0, .inr 0, .inr 0] [] (hp S D) (kont 151 19 [l0, l1] [] Q) := w_callV (y2 := 150) (vs := []) (st := []) dX9_readPlan_16 (by decide +kernel) rfl (by decide +kernel) (Nat.le_of_ble_eq_true rfl) (by simp) 8 rfl (by decide) ha
theorem s151_19  : wp 151 19 [l0, l1] [v0] h Q ↔ wp 151 21 [l0, l1] [.inl 10, v0] h Q := w_const2 dX9_readPlan_19 k_10 k8_10
theorem s151_21  : wp 151 21 [l0, l1] [.inl z, .inl x] h Q ↔ if z < x then wp 151 24 [l0, l1] [] h Q else wp 151 27 [l0, l1] [] h Q := w_cle dX9_readPlan_21 (by decide)
theorem s151_24  : wp 151 24 [l0, l1] [] h Q ↔ wp 151 26 [l0, l1] [.inl (-3)] h Q := w_const2 dX9_readPlan_24 k_m3 k8_m3
theorem s151_26  : wp 151 26 [l0, l1] [.inl x] h Q ↔ Q (some (.inl x)) h := w_reti dX9_readPlan_26 (e_ri (by decide +kernel))
theorem s151_27 (h0 : a ≠ 0) : wp 151 27 [.inr a, l1] [] h Q ↔ wp 151 28 [.inr a, l1] [.inr a] h Q := wp_step dX9_readPlan_27 (fun _ => if_neg h0)
theorem s151_28 (ha : tg a = 8) : wp 151 28 [l0, l1] [.inr a] (hp S D) Q ↔ wp 102 0 [.inr a, .inr 0] [] (hp S D) (kont 151 31 [l0, l1] [] Q) := w_callV (y2 := 102) (vs := []) (st := []) dX9_readPlan_28 (by decide +kernel) rfl (by decide +kernel) (Nat.le_of_ble_eq_true rfl) (by simp) 8 rfl (by decide) ha
theorem s151_31 (h0 : a ≠ 0) : wp 151 31 [.inr a, l1] [] h Q ↔ wp 151 32 [.inr a, l1] [.inr a] h Q := wp_step dX9_readPlan_31 (fun _ => if_neg h0)
theorem s151_32 (ha : tg a = 8) : wp 151 32 [l0, l1] [.inr a] (hp S D) Q ↔ wp 151 35 [l0, l1] [.inr (a + 1)] (hp S D) Q := w_getR dX9_readPlan_32 (t := 8) (j := 0) (c := 2) (by decide +kernel) (by decide) rfl (ln_ok (by decide) (by decide)) ha
theorem s151_35  : wp 151 35 [l0, l1] [v0] h Q ↔ wp 151 37 [l0, l1] [.inl 49, v0] h Q := w_const2 dX9_readPlan_35 k_49 k8_49
theorem s151_37  : wp 151 37 [l0, l1] [v0, v1] h Q ↔ wp 151 38 [l0, l1] [.inl 0, v0, v1] h Q := w_const1 dX9_readPlan_37 k_0
theorem s151_38 (ha : tg a = 100) (h8 : 8 ≤ a) (h0 : 0 ≤ x) (h1 : x < ln S a) : wp 151 38 [l0, l1] [.inl z, .inl x, .inr a] (hp S D) Q ↔ wp 151 39 [l0, l1] [] (hp S (up D a x.toNat z)) Q := w_iast dX9_readPlan_38 ha h8 h0 h1
theorem s151_39  : wp 151 39 [l0, l1] [] h Q ↔ wp 151 40 [l0, l1] [.inl 0] h Q := w_const1 dX9_readPlan_39 k_0
theorem s151_40  : wp 151 40 [l0, l1] [.inl x] h Q ↔ wp 151 41 [l0, .inl x] [] h Q := wp_step dX9_readPlan_40 (fun _ => rfl)
theorem s151_41  : wp 151 41 [l0, .inl x] [] h Q ↔ wp 151 42 [l0, .inl x] [.inl x] h Q := wp_step dX9_readPlan_41 (fun _ => rfl)
theorem s151_42 (h0 : a ≠ 0) : wp 151 42 [.inr a, l1] [v0] h Q ↔ wp 151 43 [.inr a, l1] [.inr a, v0] h Q := wp_step dX9_readPlan_42 (fun _ => if_neg h0)
theorem s151_43 (ha : tg a = 8) : wp 151 43 [l0, l1] [.inr a, v0] (hp S D) Q ↔ wp 151 46 [l0, l1] [.inl (D a 10), v0] (hp S D) Q := w_getI dX9_readPlan_43 (t := 8) (j := 10) (c := 0) (by decide +kernel) (by decide) rfl (ln_ok (by decide) (by decide)) ha
theorem s151_46  : wp 151 46 [l0, l1] [.inl z, .inl x] h Q ↔ if x < z then wp 151 49 [l0, l1] [] h Q else wp 151 87 [l0, l1] [] h Q := w_cge dX9_readPlan_46 (by decide)
theorem s151_49 (h0 : a ≠ 0) : wp 151 49 [.inr a, l1] [] h Q ↔ wp 151 50 [.inr a, l1] [.inr a] h Q := wp_step dX9_readPlan_49 (fun _ => if_neg h0)
theorem s151_50 (h0 : a ≠ 0) : wp 151 50 [.inr a, l1] [v0] h Q ↔ wp 151 51 [.inr a, l1] [.inr a, v0] h Q := wp_step dX9_readPlan_50 (fun _ => if_neg h0)
theorem s151_51 (ha : tg a = 8) : wp 151 51 [l0, l1] [.inr a, v0] (hp S D) Q ↔ wp 151 54 [l0, l1] [.inr (a + 6), v0] (hp S D) Q := w_getR dX9_readPlan_51 (t := 8) (j := 9) (c := 2) (by decide +kernel) (by decide) rfl (ln_ok (by decide) (by decide)) ha
theorem s151_54  : wp 151 54 [l0, l1] [v0, v1] h Q ↔ wp 151 55 [l0, l1] [.inl 3, v0, v1] h Q := w_const1 dX9_readPlan_54 k_3
theorem s151_55  : wp 151 55 [l0, .inl x] [v0, v1, v2] h Q ↔ wp 151 56 [l0, .inl x] [.inl x, v0, v1, v2] h Q := wp_step dX9_readPlan_55 (fun _ => rfl)
theorem s151_56  : wp 151 56 [l0, l1] [.inl z, .inl x, v0, v1] h Q ↔ wp 151 57 [l0, l1] [.inl (w32 (x * z)), v0, v1] h Q := wp_step dX9_readPlan_56 (fun _ => rfl)
theorem s151_57 (ha : tg a = 100) (h0 : 0 ≤ x) (h1 : x < ln S a) : wp 151 57 [l0, l1] [.inl x, .inr a, v0] (hp S D) Q ↔ wp 151 58 [l0, l1] [.inl (rd S D a x.toNat), v0] (hp S D) Q := w_iald dX9_readPlan_57 ha h0 h1
theorem s151_58 (h0 : a ≠ 0) : wp 151 58 [.inr a, l1] [v0, v1] h Q ↔ wp 151 59 [.inr a, l1] [.inr a, v0, v1] h Q := wp_step dX9_readPlan_58 (fun _ => if_neg h0)
theorem s151_59 (ha : tg a = 8) : wp 151 59 [l0, l1] [.inr a, v0, v1] (hp S D) Q ↔ wp 151 62 [l0, l1] [.inr (a + 6), v0, v1] (hp S D) Q := w_getR dX9_readPlan_59 (t := 8) (j := 9) (c := 2) (by decide +kernel) (by decide) rfl (ln_ok (by decide) (by decide)) ha
theorem s151_62  : wp 151 62 [l0, l1] [v0, v1, v2] h Q ↔ wp 151 63 [l0, l1] [.inl 3, v0, v1, v2] h Q := w_const1 dX9_readPlan_62 k_3
theorem s151_63  : wp 151 63 [l0, .inl x] [v0, v1, v2, v3] h Q ↔ wp 151 64 [l0, .inl x] [.inl x, v0, v1, v2, v3] h Q := wp_step dX9_readPlan_63 (fun _ => rfl)
theorem s151_64  : wp 151 64 [l0, l1] [.inl z, .inl x, v0, v1, v2] h Q ↔ wp 151 65 [l0, l1] [.inl (w32 (x * z)), v0, v1, v2] h Q := wp_step dX9_readPlan_64 (fun _ => rfl)
theorem s151_65  : wp 151 65 [l0, l1] [v0, v1, v2, v3] h Q ↔ wp 151 66 [l0, l1] [.inl 1, v0, v1, v2, v3] h Q := w_const1 dX9_readPlan_65 k_1
theorem s151_66  : wp 151 66 [l0, l1] [.inl z, .inl x, v0, v1, v2] h Q ↔ wp 151 67 [l0, l1] [.inl (w32 (x + z)), v0, v1, v2] h Q := wp_step dX9_readPlan_66 (fun _ => rfl)
theorem s151_67 (ha : tg a = 100) (h0 : 0 ≤ x) (h1 : x < ln S a) : wp 151 67 [l0, l1] [.inl x, .inr a, v0, v1] (hp S D) Q ↔ wp 151 68 [l0, l1] [.inl (rd S D a x.toNat), v0, v1] (hp S D) Q := w_iald dX9_readPlan_67 ha h0 h1
theorem s151_68 (h0 : a ≠ 0) : wp 151 68 [.inr a, l1] [v0, v1, v2] h Q ↔ wp 151 69 [.inr a, l1] [.inr a, v0, v1, v2] h Q := wp_step dX9_readPlan_68 (fun _ => if_neg h0)
theorem s151_69 (ha : tg a = 8) : wp 151 69 [l0, l1] [.inr a, v0, v1, v2] (hp S D) Q ↔ wp 151 72 [l0, l1] [.inr (a + 6), v0, v1, v2] (hp S D) Q := w_getR dX9_readPlan_69 (t := 8) (j := 9) (c := 2) (by decide +kernel) (by decide) rfl (ln_ok (by decide) (by decide)) ha
theorem s151_72  : wp 151 72 [l0, l1] [v0, v1, v2, v3] h Q ↔ wp 151 73 [l0, l1] [.inl 3, v0, v1, v2, v3] h Q := w_const1 dX9_readPlan_72 k_3
theorem s151_73  : wp 151 73 [l0, .inl x] [v0, v1, v2, v3, v4] h Q ↔ wp 151 74 [l0, .inl x] [.inl x, v0, v1, v2, v3, v4] h Q := wp_step dX9_readPlan_73 (fun _ => rfl)
theorem s151_74  : wp 151 74 [l0, l1] [.inl z, .inl x, v0, v1, v2, v3] h Q ↔ wp 151 75 [l0, l1] [.inl (w32 (x * z)), v0, v1, v2, v3] h Q := wp_step dX9_readPlan_74 (fun _ => rfl)
theorem s151_75  : wp 151 75 [l0, l1] [v0, v1, v2, v3, v4] h Q ↔ wp 151 76 [l0, l1] [.inl 2, v0, v1, v2, v3, v4] h Q := w_const1 dX9_readPlan_75 k_2
theorem s151_76  : wp 151 76 [l0, l1] [.inl z, .inl x, v0, v1, v2, v3] h Q ↔ wp 151 77 [l0, l1] [.inl (w32 (x + z)), v0, v1, v2, v3] h Q := wp_step dX9_readPlan_76 (fun _ => rfl)
theorem s151_77 (ha : tg a = 100) (h0 : 0 ≤ x) (h1 : x < ln S a) : wp 151 77 [l0, l1] [.inl x, .inr a, v0, v1, v2] (hp S D) Q ↔ wp 151 78 [l0, l1] [.inl (rd S D a x.toNat), v0, v1, v2] (hp S D) Q := w_iald dX9_readPlan_77 ha h0 h1
theorem s151_78 (ha : tg a = 8) : wp 151 78 [l0, l1] [p2, p1, p0, .inr a] (hp S D) Q ↔ wp 139 0 [.inr a, p0, p1, p2, .inr 0, .inr 0] [] (hp S D) (kont 151 81 [l0, l1] [] Q) := w_callV (y2 := 139) (vs := [p0, p1, p2]) (st := []) dX9_readPlan_78 (by decide +kernel) rfl (by decide +kernel) (Nat.le_of_ble_eq_true rfl) (by simp) 8 rfl (by decide) ha
theorem s151_81  : wp 151 81 [l0, .inl x] [] h Q ↔ wp 151 84 [l0, .inl (w32 (x + 1))] [] h Q := wp_step dX9_readPlan_81 (fun _ => rfl)
theorem s151_84  : wp 151 84 [l0, l1] [] h Q ↔ wp 151 41 [l0, l1] [] h Q := w_goto dX9_readPlan_84 (by decide)
theorem s151_87 (h0 : a ≠ 0) : wp 151 87 [.inr a, l1] [] h Q ↔ wp 151 88 [.inr a, l1] [.inr a] h Q := wp_step dX9_readPlan_87 (fun _ => if_neg h0)
theorem s151_88 (ha : tg a = 8) : wp 151 88 [l0, l1] [.inr a] (hp S D) Q ↔ wp 151 91 [l0, l1] [.inr (a + 1)] (hp S D) Q := w_getR dX9_readPlan_88 (t := 8) (j := 0) (c := 2) (by decide +kernel) (by decide) rfl (ln_ok (by decide) (by decide)) ha
theorem s151_91  : wp 151 91 [l0, l1] [v0] h Q ↔ wp 151 93 [l0, l1] [.inl 49, v0] h Q := w_const2 dX9_readPlan_91 k_49 k8_49
theorem s151_93 (ha : tg a = 100) (h0 : 0 ≤ x) (h1 : x < ln S a) : wp 151 93 [l0, l1] [.inl x, .inr a] (hp S D) Q ↔ wp 151 94 [l0, l1] [.inl (rd S D a x.toNat)] (hp S D) Q := w_iald dX9_readPlan_93 ha h0 h1
theorem s151_94  : wp 151 94 [l0, l1] [.inl x] h Q ↔ Q (some (.inl x)) h := w_reti dX9_readPlan_94 (e_ri (by decide +kernel))
theorem s152_0  : wp 152 0 [l0, .inl x, l2] [] h Q ↔ wp 152 1 [l0, .inl x, l2] [.inl x] h Q := wp_step dX9_lamp_0 (fun _ => rfl)
theorem s152_1  : wp 152 1 [l0, l1, l2] [p0] h Q ↔ wp 100 0 [p0] [] h (kont 152 4 [l0, l1, l2] [] Q) := w_callS (y2 := 100) (kd := 0) (vs := [p0]) (st := []) dX9_lamp_1 (by decide +kernel) (by decide) rfl (by decide +kernel) (Nat.le_of_ble_eq_true rfl) (by simp)
theorem s152_4  : wp 152 4 [l0, l1, l2] [.inl x] h Q ↔ if x = 0 then wp 152 7 [l0, l1, l2] [] h Q else wp 152 9 [l0, l1, l2] [] h Q := w_ne0 dX9_lamp_4 (by decide)
theorem s152_7  : wp 152 7 [l0, l1, l2] [] h Q ↔ wp 152 8 [l0, l1, l2] [.inl (-1)] h Q := w_const1 dX9_lamp_7 k_m1
theorem s152_8  : wp 152 8 [l0, l1, l2] [.inl x] h Q ↔ Q (some (.inl x)) h := w_reti dX9_lamp_8 (e_ri (by decide +kernel))
theorem s152_9  : wp 152 9 [l0, l1, .inl x] [] h Q ↔ wp 152 10 [l0, l1, .inl x] [.inl x] h Q := wp_step dX9_lamp_9 (fun _ => rfl)
theorem s152_10  : wp 152 10 [l0, l1, l2] [v0] h Q ↔ wp 152 11 [l0, l1, l2] [.inl 0, v0] h Q := w_const1 dX9_lamp_10 k_0
theorem s152_11  : wp 152 11 [l0, l1, l2] [v0, v1] h Q ↔ wp 152 13 [l0, l1, l2] [.inl 7, v0, v1] h Q := w_const2 dX9_lamp_11 k_7 k8_7
theorem s152_13  : wp 152 13 [l0, l1, l2] [p2, p1, p0] h Q ↔ wp 99 0 [p0, p1, p2] [] h (kont 152 16 [l0, l1, l2] [] Q) := w_callS (y2 := 99) (kd := 0) (vs := [p0, p1, p2]) (st := []) dX9_lamp_13 (by decide +kernel) (by decide) rfl (by decide +kernel) (Nat.le_of_ble_eq_true rfl) (by simp)
theorem s152_16  : wp 152 16 [l0, l1, l2] [.inl x] h Q ↔ if x = 0 then wp 152 19 [l0, l1, l2] [] h Q else wp 152 22 [l0, l1, l2] [] h Q := w_ne0 dX9_lamp_16 (by decide)
theorem s152_19  : wp 152 19 [l0, l1, l2] [] h Q ↔ wp 152 21 [l0, l1, l2] [.inl (-2)] h Q := w_const2 dX9_lamp_19 k_m2 k8_m2
theorem s152_21  : wp 152 21 [l0, l1, l2] [.inl x] h Q ↔ Q (some (.inl x)) h := w_reti dX9_lamp_21 (e_ri (by decide +kernel))
theorem s152_22 (h0 : a ≠ 0) : wp 152 22 [.inr a, l1, l2] [] h Q ↔ wp 152 23 [.inr a, l1, l2] [.inr a] h Q := wp_step dX9_lamp_22 (fun _ => if_neg h0)
theorem s152_23 (ha : tg a = 8) : wp 152 23 [l0, l1, l2] [.inr a] (hp S D) Q ↔ wp 152 26 [l0, l1, l2] [.inr (a + 1)] (hp S D) Q := w_getR dX9_lamp_23 (t := 8) (j := 0) (c := 2) (by decide +kernel) (by decide) rfl (ln_ok (by decide) (by decide)) ha
theorem s152_26  : wp 152 26 [l0, .inl x, l2] [v0] h Q ↔ wp 152 27 [l0, .inl x, l2] [.inl x, v0] h Q := wp_step dX9_lamp_26 (fun _ => rfl)
theorem s152_27  : wp 152 27 [l0, l1, l2] [p1, p0] h Q ↔ wp 109 0 [p0, p1] [] h (kont 152 30 [l0, l1, l2] [] Q) := w_callS (y2 := 109) (kd := 0) (vs := [p0, p1]) (st := []) dX9_lamp_27 (by decide +kernel) (by decide) rfl (by decide +kernel) (Nat.le_of_ble_eq_true rfl) (by simp)
theorem s152_30  : wp 152 30 [l0, l1, l2] [.inl x] h Q ↔ if x = 0 then wp 152 33 [l0, l1, l2] [] h Q else wp 152 36 [l0, l1, l2] [] h Q := w_ne0 dX9_lamp_30 (by decide)
theorem s152_33  : wp 152 33 [l0, l1, l2] [] h Q ↔ wp 152 35 [l0, l1, l2] [.inl (-5)] h Q := w_const2 dX9_lamp_33 k_m5 k8_m5
theorem s152_35  : wp 152 35 [l0, l1, l2] [.inl x] h Q ↔ Q (some (.inl x)) h := w_reti dX9_lamp_35 (e_ri (by decide +kernel))
theorem s152_36  : wp 152 36 [l0, l1, .inl x] [] h Q ↔ wp 152 37 [l0, l1, .inl x] [.inl x] h Q := wp_step dX9_lamp_36 (fun _ => rfl)
theorem s152_37  : wp 152 37 [l0, l1, l2] [.inl x] h Q ↔ if x = 3 then wp 152 72 [l0, l1, l2] [] h Q else if x = 4 then wp 152 81 [l0, l1, l2] [] h Q else if x = 5 then wp 152 90 [l0, l1, l2] [] h Q else if x = 6 then wp 152 100 [l0, l1, l2] [] h Q else if x = 7 then wp 152 117 [l0, l1, l2] [] h Q else wp 152 127 [l0, l1, l2] [] h Q := by
  have T := w_table (y := 152) (ls := [l0, l1, l2]) (st := []) (h := h) (Q := Q) (x := x) (fun i => ([72, 81, 90, 100, 117] : List Nat).getD i 0) dX9_lamp_37 127 (by decide) (by
    intro i hi
    rcases (show i = 0 ∨ i = 1 ∨ i = 2 ∨ i = 3 ∨ i = 4 by omega) with rfl | rfl | rfl | rfl | rfl <;> exact ⟨_, rfl, by decide⟩)
  rw [T]
  by_cases hc : x < 3 ∨ 7 < x
  · rw [if_pos hc]
    rw [if_neg (show ¬ x = 3 by omega), if_neg (show ¬ x = 4 by omega), if_neg (show ¬ x = 5 by omega), if_neg (show ¬ x = 6 by omega), if_neg (show ¬ x = 7 by omega)]
  · rw [if_neg hc]
    rcases (show x = 3 ∨ x = 4 ∨ x = 5 ∨ x = 6 ∨ x = 7 by omega) with rfl | rfl | rfl | rfl | rfl <;> simp
theorem s152_72 (h0 : a ≠ 0) : wp 152 72 [.inr a, l1, l2] [] h Q ↔ wp 152 73 [.inr a, l1, l2] [.inr a] h Q := wp_step dX9_lamp_72 (fun _ => if_neg h0)
theorem s152_73 (ha : tg a = 8) : wp 152 73 [l0, l1, l2] [.inr a] (hp S D) Q ↔ wp 152 76 [l0, l1, l2] [.inr (a + 1)] (hp S D) Q := w_getR dX9_lamp_73 (t := 8) (j := 0) (c := 2) (by decide +kernel) (by decide) rfl (ln_ok (by decide) (by decide)) ha
theorem s152_76  : wp 152 76 [l0, .inl x, l2] [v0] h Q ↔ wp 152 77 [l0, .inl x, l2] [.inl x, v0] h Q := wp_step dX9_lamp_76 (fun _ => rfl)
theorem s152_77  : wp 152 77 [l0, l1, l2] [p1, p0] h Q ↔ wp 112 0 [p0, p1] [] h (kont 152 80 [l0, l1, l2] [] Q) := w_callS (y2 := 112) (kd := 0) (vs := [p0, p1]) (st := []) dX9_lamp_77 (by decide +kernel) (by decide) rfl (by decide +kernel) (Nat.le_of_ble_eq_true rfl) (by simp)
theorem s152_80  : wp 152 80 [l0, l1, l2] [.inl x] h Q ↔ Q (some (.inl x)) h := w_reti dX9_lamp_80 (e_ri (by decide +kernel))
theorem s152_81 (h0 : a ≠ 0) : wp 152 81 [.inr a, l1, l2] [] h Q ↔ wp 152 82 [.inr a, l1, l2] [.inr a] h Q := wp_step dX9_lamp_81 (fun _ => if_neg h0)
theorem s152_82 (ha : tg a = 8) : wp 152 82 [l0, l1, l2] [.inr a] (hp S D) Q ↔ wp 152 85 [l0, l1, l2] [.inr (a + 1)] (hp S D) Q := w_getR dX9_lamp_82 (t := 8) (j := 0) (c := 2) (by decide +kernel) (by decide) rfl (ln_ok (by decide) (by decide)) ha
theorem s152_85  : wp 152 85 [l0, .inl x, l2] [v0] h Q ↔ wp 152 86 [l0, .inl x, l2] [.inl x, v0] h Q := wp_step dX9_lamp_85 (fun _ => rfl)
theorem s152_86  : wp 152 86 [l0, l1, l2] [p1, p0] h Q ↔ wp 115 0 [p0, p1, .inr 0] [] h (kont 152 89 [l0, l1, l2] [] Q) := w_callS (y2 := 115) (kd := 0) (vs := [p0, p1]) (st := []) dX9_lamp_86 (by decide +kernel) (by decide) rfl (by decide +kernel) (Nat.le_of_ble_eq_true rfl) (by simp)
theorem s152_89  : wp 152 89 [l0, l1, l2] [.inl x] h Q ↔ Q (some (.inl x)) h := w_reti dX9_lamp_89 (e_ri (by decide +kernel))
theorem s152_90 (h0 : a ≠ 0) : wp 152 90 [.inr a, l1, l2] [] h Q ↔ wp 152 91 [.inr a, l1, l2] [.inr a] h Q := wp_step dX9_lamp_90 (fun _ => if_neg h0)
theorem s152_91 (ha : tg a = 8) : wp 152 91 [l0, l1, l2] [.inr a] (hp S D) Q ↔ wp 152 94 [l0, l1, l2] [.inr (a + 1)] (hp S D) Q := w_getR dX9_lamp_91 (t := 8) (j := 0) (c := 2) (by decide +kernel) (by decide) rfl (ln_ok (by decide) (by decide)) ha
theorem s152_94  : wp 152 94 [l0, .inl x, l2] [v0] h Q ↔ wp 152 95 [l0, .inl x, l2] [.inl x, v0] h Q := wp_step dX9_lamp_94 (fun _ => rfl)
theorem s152_95  : wp 152 95 [l0, l1, l2] [v0, v1] h Q ↔ wp 152 96 [l0, l1, l2] [.inl 3, v0, v1] h Q := w_const1 dX9_lamp_95 k_3
theorem s152_96  : wp 152 96 [l0, l1, l2] [p2, p1, p0] h Q ↔ wp 106 0 [p0, p1, p2] [] h (kont 152 99 [l0, l1, l2] [] Q) := w_callS (y2 := 106) (kd := 0) (vs := [p0, p1, p2]) (st := []) dX9_lamp_96 (by decide +kernel) (by decide) rfl (by decide +kernel) (Nat.le_of_ble_eq_true rfl) (by simp)
theorem s152_99  : wp 152 99 [l0, l1, l2] [.inl x] h Q ↔ Q (some (.inl x)) h := w_reti dX9_lamp_99 (e_ri (by decide +kernel))
theorem s152_100 (h0 : a ≠ 0) : wp 152 100 [.inr a, l1, l2] [] h Q ↔ wp 152 101 [.inr a, l1, l2] [.inr a] h Q := wp_step dX9_lamp_100 (fun _ => if_neg h0)
theorem s152_101 (ha : tg a = 8) : wp 152 101 [l0, l1, l2] [.inr a] (hp S D) Q ↔ wp 152 104 [l0, l1, l2] [.inr (a + 1)] (hp S D) Q := w_getR dX9_lamp_101 (t := 8) (j := 0) (c := 2) (by decide +kernel) (by decide) rfl (ln_ok (by decide) (by decide)) ha
theorem s152_104  : wp 152 104 [l0, .inl x, l2] [v0] h Q ↔ wp 152 105 [l0, .inl x, l2] [.inl x, v0] h Q := wp_step dX9_lamp_104 (fun _ => rfl)
theorem s152_105  : wp 152 105 [l0, l1, l2] [p1, p0] h Q ↔ wp 114 0 [p0, p1] [] h (kont 152 108 [l0, l1, l2] [] Q) := w_callS (y2 := 114) (kd := 0) (vs := [p0, p1]) (st := []) dX9_lamp_105 (by decide +kernel) (by decide) rfl (by decide +kernel) (Nat.le_of_ble_eq_true rfl) (by simp)
theorem s152_108  : wp 152 108 [l0, l1, l2] [.inl x] h Q ↔ if x = 0 then wp 152 115 [l0, l1, l2] [] h Q else wp 152 111 [l0, l1, l2] [] h Q := w_eq0 dX9_lamp_108 (by decide)
theorem s152_111  : wp 152 111 [l0, l1, l2] [] h Q ↔ wp 152 112 [l0, l1, l2] [.inl 1] h Q := w_const1 dX9_lamp_111 k_1
theorem s152_112  : wp 152 112 [l0, l1, l2] [v0] h Q ↔ wp 152 116 [l0, l1, l2] [v0] h Q := w_goto dX9_lamp_112 (by decide)
theorem s152_115  : wp 152 115 [l0, l1, l2] [] h Q ↔ wp 152 116 [l0, l1, l2] [.inl 0] h Q := w_const1 dX9_lamp_115 k_0
theorem s152_116  : wp 152 116 [l0, l1, l2] [.inl x] h Q ↔ Q (some (.inl x)) h := w_reti dX9_lamp_116 (e_ri (by decide +kernel))
theorem s152_117 (h0 : a ≠ 0) : wp 152 117 [.inr a, l1, l2] [] h Q ↔ wp 152 118 [.inr a, l1, l2] [.inr a] h Q := wp_step dX9_lamp_117 (fun _ => if_neg h0)
theorem s152_118 (ha : tg a = 8) : wp 152 118 [l0, l1, l2] [.inr a] (hp S D) Q ↔ wp 152 121 [l0, l1, l2] [.inr (a + 1)] (hp S D) Q := w_getR dX9_lamp_118 (t := 8) (j := 0) (c := 2) (by decide +kernel) (by decide) rfl (ln_ok (by decide) (by decide)) ha
theorem s152_121  : wp 152 121 [l0, .inl x, l2] [v0] h Q ↔ wp 152 122 [l0, .inl x, l2] [.inl x, v0] h Q := wp_step dX9_lamp_121 (fun _ => rfl)
theorem s152_122  : wp 152 122 [l0, l1, l2] [v0, v1] h Q ↔ wp 152 123 [l0, l1, l2] [.inl 4, v0, v1] h Q := w_const1 dX9_lamp_122 k_4
theorem s152_123  : wp 152 123 [l0, l1, l2] [p2, p1, p0] h Q ↔ wp 106 0 [p0, p1, p2] [] h (kont 152 126 [l0, l1, l2] [] Q) := w_callS (y2 := 106) (kd := 0) (vs := [p0, p1, p2]) (st := []) dX9_lamp_123 (by decide +kernel) (by decide) rfl (by decide +kernel) (Nat.le_of_ble_eq_true rfl) (by simp)
theorem s152_126  : wp 152 126 [l0, l1, l2] [.inl x] h Q ↔ Q (some (.inl x)) h := w_reti dX9_lamp_126 (e_ri (by decide +kernel))
theorem s152_127 (h0 : a ≠ 0) : wp 152 127 [.inr a, l1, l2] [] h Q ↔ wp 152 128 [.inr a, l1, l2] [.inr a] h Q := wp_step dX9_lamp_127 (fun _ => if_neg h0)
theorem s152_128 (ha : tg a = 8) : wp 152 128 [l0, l1, l2] [.inr a] (hp S D) Q ↔ wp 152 131 [l0, l1, l2] [.inr (a + 1)] (hp S D) Q := w_getR dX9_lamp_128 (t := 8) (j := 0) (c := 2) (by decide +kernel) (by decide) rfl (ln_ok (by decide) (by decide)) ha
theorem s152_131  : wp 152 131 [l0, .inl x, l2] [v0] h Q ↔ wp 152 132 [l0, .inl x, l2] [.inl x, v0] h Q := wp_step dX9_lamp_131 (fun _ => rfl)
theorem s152_132  : wp 152 132 [l0, l1, .inl x] [v0, v1] h Q ↔ wp 152 133 [l0, l1, .inl x] [.inl x, v0, v1] h Q := wp_step dX9_lamp_132 (fun _ => rfl)
theorem s152_133  : wp 152 133 [l0, l1, l2] [p2, p1, p0] h Q ↔ wp 106 0 [p0, p1, p2] [] h (kont 152 136 [l0, l1, l2] [] Q) := w_callS (y2 := 106) (kd := 0) (vs := [p0, p1, p2]) (st := []) dX9_lamp_133 (by decide +kernel) (by decide) rfl (by decide +kernel) (Nat.le_of_ble_eq_true rfl) (by simp)
theorem s152_136  : wp 152 136 [l0, l1, l2] [.inl x] h Q ↔ Q (some (.inl x)) h := w_reti dX9_lamp_136 (e_ri (by decide +kernel))
theorem s153_0  : wp 153 0 [l0, .inl x] [] h Q ↔ wp 153 1 [l0, .inl x] [.inl x] h Q := wp_step dX9_wheel_0 (fun _ => rfl)
theorem s153_1  : wp 153 1 [l0, l1] [.inl x] h Q ↔ if x = 0 then wp 153 48 [l0, l1] [] h Q else if x = 1 then wp 153 56 [l0, l1] [] h Q else if x = 2 then wp 153 64 [l0, l1] [] h Q else if x = 3 then wp 153 88 [l0, l1] [] h Q else if x = 4 then wp 153 96 [l0, l1] [] h Q else if x = 5 then wp 153 112 [l0, l1] [] h Q else if x = 6 then wp 153 120 [l0, l1] [] h Q else if x = 7 then wp 153 127 [l0, l1] [] h Q else wp 153 134 [l0, l1] [] h Q := by
  have T := w_table (y := 153) (ls := [l0, l1]) (st := []) (h := h) (Q := Q) (x := x) (fun i => ([48, 56, 64, 88, 96, 112, 120, 127] : List Nat).getD i 0) dX9_wheel_1 134 (by decide) (by
    intro i hi
    rcases (show i = 0 ∨ i = 1 ∨ i = 2 ∨ i = 3 ∨ i = 4 ∨ i = 5 ∨ i = 6 ∨ i = 7 by omega) with rfl | rfl | rfl | rfl | rfl | rfl | rfl | rfl <;> exact ⟨_, rfl, by decide⟩)
  rw [T]
  by_cases hc : x < 0 ∨ 7 < x
  · rw [if_pos hc]
    rw [if_neg (show ¬ x = 0 by omega), if_neg (show ¬ x = 1 by omega), if_neg (show ¬ x = 2 by omega), if_neg (show ¬ x = 3 by omega), if_neg (show ¬ x = 4 by omega), if_neg (show ¬ x = 5 by omega), if_neg (show ¬ x = 6 by omega), if_neg (show ¬ x = 7 by omega)]
  · rw [if_neg hc]
    rcases (show x = 0 ∨ x = 1 ∨ x = 2 ∨ x = 3 ∨ x = 4 ∨ x = 5 ∨ x = 6 ∨ x = 7 by omega) with rfl | rfl | rfl | rfl | rfl | rfl | rfl | rfl <;> simp
theorem s153_48 (h0 : a ≠ 0) : wp 153 48 [.inr a, l1] [] h Q ↔ wp 153 49 [.inr a, l1] [.inr a] h Q := wp_step dX9_wheel_48 (fun _ => if_neg h0)
theorem s153_49 (ha : tg a = 8) : wp 153 49 [l0, l1] [.inr a] (hp S D) Q ↔ wp 153 52 [l0, l1] [.inr (a + 1)] (hp S D) Q := w_getR dX9_wheel_49 (t := 8) (j := 0) (c := 2) (by decide +kernel) (by decide) rfl (ln_ok (by decide) (by decide)) ha
theorem s153_52  : wp 153 52 [l0, l1] [v0] h Q ↔ wp 153 54 [l0, l1] [.inl 7, v0] h Q := w_const2 dX9_wheel_52 k_7 k8_7
theorem s153_54 (ha : tg a = 100) (h0 : 0 ≤ x) (h1 : x < ln S a) : wp 153 54 [l0, l1] [.inl x, .inr a] (hp S D) Q ↔ wp 153 55 [l0, l1] [.inl (rd S D a x.toNat)] (hp S D) Q := w_iald dX9_wheel_54 ha h0 h1
theorem s153_55  : wp 153 55 [l0, l1] [.inl x] h Q ↔ Q (some (.inl x)) h := w_reti dX9_wheel_55 (e_ri (by decide +kernel))
theorem s153_56 (h0 : a ≠ 0) : wp 153 56 [.inr a, l1] [] h Q ↔ wp 153 57 [.inr a, l1] [.inr a] h Q := wp_step dX9_wheel_56 (fun _ => if_neg h0)
theorem s153_57 (ha : tg a = 8) : wp 153 57 [l0, l1] [.inr a] (hp S D) Q ↔ wp 153 60 [l0, l1] [.inr (a + 1)] (hp S D) Q := w_getR dX9_wheel_57 (t := 8) (j := 0) (c := 2) (by decide +kernel) (by decide) rfl (ln_ok (by decide) (by decide)) ha
theorem s153_60  : wp 153 60 [l0, l1] [v0] h Q ↔ wp 153 62 [l0, l1] [.inl 8, v0] h Q := w_const2 dX9_wheel_60 k_8 k8_8
theorem s153_62 (ha : tg a = 100) (h0 : 0 ≤ x) (h1 : x < ln S a) : wp 153 62 [l0, l1] [.inl x, .inr a] (hp S D) Q ↔ wp 153 63 [l0, l1] [.inl (rd S D a x.toNat)] (hp S D) Q := w_iald dX9_wheel_62 ha h0 h1
theorem s153_63  : wp 153 63 [l0, l1] [.inl x] h Q ↔ Q (some (.inl x)) h := w_reti dX9_wheel_63 (e_ri (by decide +kernel))
theorem s153_64 (h0 : a ≠ 0) : wp 153 64 [.inr a, l1] [] h Q ↔ wp 153 65 [.inr a, l1] [.inr a] h Q := wp_step dX9_wheel_64 (fun _ => if_neg h0)
theorem s153_65 (ha : tg a = 8) : wp 153 65 [l0, l1] [.inr a] (hp S D) Q ↔ wp 153 68 [l0, l1] [.inr (a + 1)] (hp S D) Q := w_getR dX9_wheel_65 (t := 8) (j := 0) (c := 2) (by decide +kernel) (by decide) rfl (ln_ok (by decide) (by decide)) ha
theorem s153_68  : wp 153 68 [l0, l1] [v0] h Q ↔ wp 153 70 [l0, l1] [.inl 8, v0] h Q := w_const2 dX9_wheel_68 k_8 k8_8
theorem s153_70 (ha : tg a = 100) (h0 : 0 ≤ x) (h1 : x < ln S a) : wp 153 70 [l0, l1] [.inl x, .inr a] (hp S D) Q ↔ wp 153 71 [l0, l1] [.inl (rd S D a x.toNat)] (hp S D) Q := w_iald dX9_wheel_70 ha h0 h1
theorem s153_71  : wp 153 71 [l0, l1] [v0] h Q ↔ wp 153 73 [l0, l1] [.inl (-5), v0] h Q := w_const2 dX9_wheel_71 k_m5 k8_m5
theorem s153_73  : wp 153 73 [l0, l1] [.inl z, .inl x] h Q ↔ if x = z then wp 153 76 [l0, l1] [] h Q else wp 153 80 [l0, l1] [] h Q := w_cne dX9_wheel_73 (by decide)
theorem s153_76  : wp 153 76 [l0, l1] [] h Q ↔ wp 153 77 [l0, l1] [.inl 0] h Q := w_const1 dX9_wheel_76 k_0
theorem s153_77  : wp 153 77 [l0, l1] [v0] h Q ↔ wp 153 87 [l0, l1] [v0] h Q := w_goto dX9_wheel_77 (by decide)
theorem s153_80 (h0 : a ≠ 0) : wp 153 80 [.inr a, l1] [] h Q ↔ wp 153 81 [.inr a, l1] [.inr a] h Q := wp_step dX9_wheel_80 (fun _ => if_neg h0)
theorem s153_81 (ha : tg a = 8) : wp 153 81 [l0, l1] [.inr a] (hp S D) Q ↔ wp 153 84 [l0, l1] [.inr (a + 1)] (hp S D) Q := w_getR dX9_wheel_81 (t := 8) (j := 0) (c := 2) (by decide +kernel) (by decide) rfl (ln_ok (by decide) (by decide)) ha
theorem s153_84  : wp 153 84 [l0, l1] [v0] h Q ↔ wp 153 86 [l0, l1] [.inl 9, v0] h Q := w_const2 dX9_wheel_84 k_9 k8_9
theorem s153_86 (ha : tg a = 100) (h0 : 0 ≤ x) (h1 : x < ln S a) : wp 153 86 [l0, l1] [.inl x, .inr a] (hp S D) Q ↔ wp 153 87 [l0, l1] [.inl (rd S D a x.toNat)] (hp S D) Q := w_iald dX9_wheel_86 ha h0 h1
theorem s153_87  : wp 153 87 [l0, l1] [.inl x] h Q ↔ Q (some (.inl x)) h := w_reti dX9_wheel_87 (e_ri (by decide +kernel))
theorem s153_88 (h0 : a ≠ 0) : wp 153 88 [.inr a, l1] [] h Q ↔ wp 153 89 [.inr a, l1] [.inr a] h Q := wp_step dX9_wheel_88 (fun _ => if_neg h0)
theorem s153_89 (ha : tg a = 8) : wp 153 89 [l0, l1] [.inr a] (hp S D) Q ↔ wp 153 92 [l0, l1] [.inr (a + 1)] (hp S D) Q := w_getR dX9_wheel_89 (t := 8) (j := 0) (c := 2) (by decide +kernel) (by decide) rfl (ln_ok (by decide) (by decide)) ha
theorem s153_92  : wp 153 92 [l0, l1] [v0] h Q ↔ wp 153 94 [l0, l1] [.inl 10, v0] h Q := w_const2 dX9_wheel_92 k_10 k8_10
theorem s153_94 (ha : tg a = 100) (h0 : 0 ≤ x) (h1 : x < ln S a) : wp 153 94 [l0, l1] [.inl x, .inr a] (hp S D) Q ↔ wp 153 95 [l0, l1] [.inl (rd S D a x.toNat)] (hp S D) Q := w_iald dX9_wheel_94 ha h0 h1
theorem s153_95  : wp 153 95 [l0, l1] [.inl x] h Q ↔ Q (some (.inl x)) h := w_reti dX9_wheel_95 (e_ri (by decide +kernel))
theorem s153_96 (h0 : a ≠ 0) : wp 153 96 [.inr a, l1] [] h Q ↔ wp 153 97 [.inr a, l1] [.inr a] h Q := wp_step dX9_wheel_96 (fun _ => if_neg h0)
theorem s153_97 (ha : tg a = 8) : wp 153 97 [l0, l1] [.inr a] (hp S D) Q ↔ wp 153 100 [l0, l1] [.inr (a + 1)] (hp S D) Q := w_getR dX9_wheel_97 (t := 8) (j := 0) (c := 2) (by decide +kernel) (by decide) rfl (ln_ok (by decide) (by decide)) ha
theorem s153_100  : wp 153 100 [l0, l1] [p0] h Q ↔ wp 122 0 [p0, .inr 0] [] h (kont 153 103 [l0, l1] [] Q) := w_callS (y2 := 122) (kd := 0) (vs := [p0]) (st := []) dX9_wheel_100 (by decide +kernel) (by decide) rfl (by decide +kernel) (Nat.le_of_ble_eq_true rfl) (by simp)
theorem s153_103  : wp 153 103 [l0, l1] [.inl x] h Q ↔ if x = 0 then wp 153 110 [l0, l1] [] h Q else wp 153 106 [l0, l1] [] h Q := w_eq0 dX9_wheel_103 (by decide)
theorem s153_106  : wp 153 106 [l0, l1] [] h Q ↔ wp 153 107 [l0, l1] [.inl 1] h Q := w_const1 dX9_wheel_106 k_1
theorem s153_107  : wp 153 107 [l0, l1] [v0] h Q ↔ wp 153 111 [l0, l1] [v0] h Q := w_goto dX9_wheel_107 (by decide)
theorem s153_110  : wp 153 110 [l0, l1] [] h Q ↔ wp 153 111 [l0, l1] [.inl 0] h Q := w_const1 dX9_wheel_110 k_0
theorem s153_111  : wp 153 111 [l0, l1] [.inl x] h Q ↔ Q (some (.inl x)) h := w_reti dX9_wheel_111 (e_ri (by decide +kernel))
theorem s153_112 (h0 : a ≠ 0) : wp 153 112 [.inr a, l1] [] h Q ↔ wp 153 113 [.inr a, l1] [.inr a] h Q := wp_step dX9_wheel_112 (fun _ => if_neg h0)
theorem s153_113 (ha : tg a = 8) : wp 153 113 [l0, l1] [.inr a] (hp S D) Q ↔ wp 153 116 [l0, l1] [.inr (a + 1)] (hp S D) Q := w_getR dX9_wheel_113 (t := 8) (j := 0) (c := 2) (by decide +kernel) (by decide) rfl (ln_ok (by decide) (by decide)) ha
theorem s153_116  : wp 153 116 [l0, l1] [p0] h Q ↔ wp 119 0 [p0, .inr 0] [] h (kont 153 119 [l0, l1] [] Q) := w_callS (y2 := 119) (kd := 0) (vs := [p0]) (st := []) dX9_wheel_116 (by decide +kernel) (by decide) rfl (by decide +kernel) (Nat.le_of_ble_eq_true rfl) (by simp)
theorem s153_119  : wp 153 119 [l0, l1] [.inl x] h Q ↔ Q (some (.inl x)) h := w_reti dX9_wheel_119 (e_ri (by decide +kernel))
theorem s153_120 (h0 : a ≠ 0) : wp 153 120 [.inr a, l1] [] h Q ↔ wp 153 121 [.inr a, l1] [.inr a] h Q := wp_step dX9_wheel_120 (fun _ => if_neg h0)
theorem s153_121 (ha : tg a = 8) : wp 153 121 [l0, l1] [.inr a] (hp S D) Q ↔ wp 153 124 [l0, l1] [.inr (a + 1)] (hp S D) Q := w_getR dX9_wheel_121 (t := 8) (j := 0) (c := 2) (by decide +kernel) (by decide) rfl (ln_ok (by decide) (by decide)) ha
theorem s153_124  : wp 153 124 [l0, l1] [v0] h Q ↔ wp 153 125 [l0, l1] [.inl 1, v0] h Q := w_const1 dX9_wheel_124 k_1
theorem s153_125 (ha : tg a = 100) (h0 : 0 ≤ x) (h1 : x < ln S a) : wp 153 125 [l0, l1] [.inl x, .inr a] (hp S D) Q ↔ wp 153 126 [l0, l1] [.inl (rd S D a x.toNat)] (hp S D) Q := w_iald dX9_wheel_125 ha h0 h1
theorem s153_126  : wp 153 126 [l0, l1] [.inl x] h Q ↔ Q (some (.inl x)) h := w_reti dX9_wheel_126 (e_ri (by decide +kernel))
theorem s153_127 (h0 : a ≠ 0) : wp 153 127 [.inr a, l1] [] h Q ↔ wp 153 128 [.inr a, l1] [.inr a] h Q := wp_step dX9_wheel_127 (fun _ => if_neg h0)
theorem s153_128 (ha : tg a = 8) : wp 153 128 [l0, l1] [.inr a] (hp S D) Q ↔ wp 153 131 [l0, l1] [.inr (a + 1)] (hp S D) Q := w_getR dX9_wheel_128 (t := 8) (j := 0) (c := 2) (by decide +kernel) (by decide) rfl (ln_ok (by decide) (by decide)) ha
theorem s153_131  : wp 153 131 [l0, l1] [v0] h Q ↔ wp 153 132 [l0, l1] [.inl 2, v0] h Q := w_const1 dX9_wheel_131 k_2
theorem s153_132 (ha : tg a = 100) (h0 : 0 ≤ x) (h1 : x < ln S a) : wp 153 132 [l0, l1] [.inl x, .inr a] (hp S D) Q ↔ wp 153 133 [l0, l1] [.inl (rd S D a x.toNat)] (hp S D) Q := w_iald dX9_wheel_132 ha h0 h1
theorem s153_133  : wp 153 133 [l0, l1] [.inl x] h Q ↔ Q (some (.inl x)) h := w_reti dX9_wheel_133 (e_ri (by decide +kernel))
theorem s153_134  : wp 153 134 [l0, l1] [] h Q ↔ wp 153 136 [l0, l1] [.inl (-2)] h Q := w_const2 dX9_wheel_134 k_m2 k8_m2
theorem s153_136  : wp 153 136 [l0, l1] [.inl x] h Q ↔ Q (some (.inl x)) h := w_reti dX9_wheel_136 (e_ri (by decide +kernel))
theorem s154_0  : wp 154 0 [l0, .inl x, l2] [] h Q ↔ wp 154 1 [l0, .inl x, l2] [.inl x] h Q := wp_step dX9_tiredIn_0 (fun _ => rfl)
theorem s154_1  : wp 154 1 [l0, l1, l2] [p0] h Q ↔ wp 100 0 [p0] [] h (kont 154 4 [l0, l1, l2] [] Q) := w_callS (y2 := 100) (kd := 0) (vs := [p0]) (st := []) dX9_tiredIn_1 (by decide +kernel) (by decide) rfl (by decide +kernel) (Nat.le_of_ble_eq_true rfl) (by simp)
theorem s154_4  : wp 154 4 [l0, l1, l2] [.inl x] h Q ↔ if x = 0 then wp 154 7 [l0, l1, l2] [] h Q else wp 154 9 [l0, l1, l2] [] h Q := w_ne0 dX9_tiredIn_4 (by decide)
theorem s154_7  : wp 154 7 [l0, l1, l2] [] h Q ↔ wp 154 8 [l0, l1, l2] [.inl (-1)] h Q := w_const1 dX9_tiredIn_7 k_m1
theorem s154_8  : wp 154 8 [l0, l1, l2] [.inl x] h Q ↔ Q (some (.inl x)) h := w_reti dX9_tiredIn_8 (e_ri (by decide +kernel))
theorem s154_9 (h0 : a ≠ 0) : wp 154 9 [.inr a, l1, l2] [] h Q ↔ wp 154 10 [.inr a, l1, l2] [.inr a] h Q := wp_step dX9_tiredIn_9 (fun _ => if_neg h0)
theorem s154_10 (ha : tg a = 8) : wp 154 10 [l0, l1, l2] [.inr a] (hp S D) Q ↔ wp 154 13 [l0, l1, l2] [.inr (a + 1)] (hp S D) Q := w_getR dX9_tiredIn_10 (t := 8) (j := 0) (c := 2) (by decide +kernel) (by decide) rfl (ln_ok (by decide) (by decide)) ha
theorem s154_13  : wp 154 13 [l0, .inl x, l2] [v0] h Q ↔ wp 154 14 [l0, .inl x, l2] [.inl x, v0] h Q := wp_step dX9_tiredIn_13 (fun _ => rfl)
theorem s154_14  : wp 154 14 [l0, l1, l2] [v0, v1] h Q ↔ wp 154 15 [l0, l1, l2] [.inl 0, v0, v1] h Q := w_const1 dX9_tiredIn_14 k_0
theorem s154_15  : wp 154 15 [l0, l1, l2] [p2, p1, p0] h Q ↔ wp 117 0 [p0, p1, p2] [] h (kont 154 18 [l0, l1, l2] [] Q) := w_callS (y2 := 117) (kd := 0) (vs := [p0, p1, p2]) (st := []) dX9_tiredIn_15 (by decide +kernel) (by decide) rfl (by decide +kernel) (Nat.le_of_ble_eq_true rfl) (by simp)
theorem s154_18  : wp 154 18 [l0, l1, l2] [.inl x] h Q ↔ if x = 0 then wp 154 21 [l0, l1, l2] [] h Q else wp 154 24 [l0, l1, l2] [] h Q := w_ne0 dX9_tiredIn_18 (by decide)
theorem s154_21  : wp 154 21 [l0, l1, l2] [] h Q ↔ wp 154 23 [l0, l1, l2] [.inl (-4)] h Q := w_const2 dX9_tiredIn_21 k_m4 k8_m4
theorem s154_23  : wp 154 23 [l0, l1, l2] [.inl x] h Q ↔ Q (some (.inl x)) h := w_reti dX9_tiredIn_23 (e_ri (by decide +kernel))
theorem s154_24 (h0 : a ≠ 0) : wp 154 24 [.inr a, l1, l2] [] h Q ↔ wp 154 25 [.inr a, l1, l2] [.inr a] h Q := wp_step dX9_tiredIn_24 (fun _ => if_neg h0)
theorem s154_25 (ha : tg a = 8) : wp 154 25 [l0, l1, l2] [.inr a] (hp S D) Q ↔ wp 154 28 [l0, l1, l2] [.inr (a + 1)] (hp S D) Q := w_getR dX9_tiredIn_25 (t := 8) (j := 0) (c := 2) (by decide +kernel) (by decide) rfl (ln_ok (by decide) (by decide)) ha
theorem s154_28  : wp 154 28 [l0, l1, l2] [v0] h Q ↔ wp 154 29 [l0, l1, l2] [.inl 0, v0] h Q := w_const1 dX9_tiredIn_28 k_0
theorem s154_29 (h0 : a ≠ 0) : wp 154 29 [.inr a, l1, l2] [v0, v1] h Q ↔ wp 154 30 [.inr a, l1, l2] [.inr a, v0, v1] h Q := wp_step dX9_tiredIn_29 (fun _ => if_neg h0)
theorem s154_30 (ha : tg a = 8) : wp 154 30 [l0, l1, l2] [.inr a, v0, v1] (hp S D) Q ↔ wp 154 33 [l0, l1, l2] [.inr (a + 2), v0, v1] (hp S D) Q := w_getR dX9_tiredIn_30 (t := 8) (j := 1) (c := 2) (by decide +kernel) (by decide) rfl (ln_ok (by decide) (by decide)) ha
theorem s154_33  : wp 154 33 [l0, l1, l2] [v0, v1, v2] h Q ↔ wp 154 34 [l0, l1, l2] [.inl 0, v0, v1, v2] h Q := w_const1 dX9_tiredIn_33 k_0
theorem s154_34  : wp 154 34 [l0, l1, l2] [p3, p2, p1, p0] h Q ↔ wp 101 0 [p0, p1, p2, p3, .inr 0] [] h (kont 154 37 [l0, l1, l2] [] Q) := w_callS (y2 := 101) (kd := 0) (vs := [p0, p1, p2, p3]) (st := []) dX9_tiredIn_34 (by decide +kernel) (by decide) rfl (by decide +kernel) (Nat.le_of_ble_eq_true rfl) (by simp)
theorem s154_37  : wp 154 37 [l0, l1, l2] [] h Q ↔ wp 154 38 [l0, l1, l2] [.inl 0] h Q := w_const1 dX9_tiredIn_37 k_0
theorem s154_38  : wp 154 38 [l0, l1, l2] [.inl x] h Q ↔ wp 154 39 [l0, l1, .inl x] [] h Q := wp_step dX9_tiredIn_38 (fun _ => rfl)
theorem s154_39 (h0 : a ≠ 0) : wp 154 39 [.inr a, l1, l2] [] h Q ↔ wp 154 40 [.inr a, l1, l2] [.inr a] h Q := wp_step dX9_tiredIn_39 (fun _ => if_neg h0)
theorem s154_40 (ha : tg a = 8) : wp 154 40 [l0, l1, l2] [.inr a] (hp S D) Q ↔ wp 154 43 [l0, l1, l2] [.inr (a + 2)] (hp S D) Q := w_getR dX9_tiredIn_40 (t := 8) (j := 1) (c := 2) (by decide +kernel) (by decide) rfl (ln_ok (by decide) (by decide)) ha
theorem s154_43  : wp 154 43 [l0, .inl x, l2] [v0] h Q ↔ wp 154 44 [l0, .inl x, l2] [.inl x, v0] h Q := wp_step dX9_tiredIn_43 (fun _ => rfl)
theorem s154_44  : wp 154 44 [l0, l1, l2] [v0, v1] h Q ↔ wp 154 45 [l0, l1, l2] [.inl 3, v0, v1] h Q := w_const1 dX9_tiredIn_44 k_3
theorem s154_45  : wp 154 45 [l0, l1, l2] [p2, p1, p0] h Q ↔ wp 106 0 [p0, p1, p2] [] h (kont 154 48 [l0, l1, l2] [] Q) := w_callS (y2 := 106) (kd := 0) (vs := [p0, p1, p2]) (st := []) dX9_tiredIn_45 (by decide +kernel) (by decide) rfl (by decide +kernel) (Nat.le_of_ble_eq_true rfl) (by simp)
theorem s154_48  : wp 154 48 [l0, l1, l2] [.inl x] h Q ↔ if x = 0 then wp 154 51 [l0, l1, l2] [] h Q else wp 154 76 [l0, l1, l2] [] h Q := w_ne0 dX9_tiredIn_48 (by decide)
theorem s154_51 (h0 : a ≠ 0) : wp 154 51 [.inr a, l1, l2] [] h Q ↔ wp 154 52 [.inr a, l1, l2] [.inr a] h Q := wp_step dX9_tiredIn_51 (fun _ => if_neg h0)
theorem s154_52 (ha : tg a = 8) : wp 154 52 [l0, l1, l2] [.inr a] (hp S D) Q ↔ wp 154 55 [l0, l1, l2] [.inr (a + 2)] (hp S D) Q := w_getR dX9_tiredIn_52 (t := 8) (j := 1) (c := 2) (by decide +kernel) (by decide) rfl (ln_ok (by decide) (by decide)) ha
theorem s154_55  : wp 154 55 [l0, .inl x, l2] [v0] h Q ↔ wp 154 56 [l0, .inl x, l2] [.inl x, v0] h Q := wp_step dX9_tiredIn_55 (fun _ => rfl)
theorem s154_56  : wp 154 56 [l0, l1, l2] [p1, p0] h Q ↔ wp 114 0 [p0, p1] [] h (kont 154 59 [l0, l1, l2] [] Q) := w_callS (y2 := 114) (kd := 0) (vs := [p0, p1]) (st := []) dX9_tiredIn_56 (by decide +kernel) (by decide) rfl (by decide +kernel) (Nat.le_of_ble_eq_true rfl) (by simp)
theorem s154_59  : wp 154 59 [l0, l1, l2] [.inl x] h Q ↔ if x = 0 then wp 154 62 [l0, l1, l2] [] h Q else wp 154 76 [l0, l1, l2] [] h Q := w_ne0 dX9_tiredIn_59 (by decide)
theorem s154_62 (h0 : a ≠ 0) : wp 154 62 [.inr a, l1, l2] [] h Q ↔ wp 154 63 [.inr a, l1, l2] [.inr a] h Q := wp_step dX9_tiredIn_62 (fun _ => if_neg h0)
theorem s154_63 (ha : tg a = 8) : wp 154 63 [l0, l1, l2] [.inr a] (hp S D) Q ↔ wp 154 66 [l0, l1, l2] [.inr (a + 2)] (hp S D) Q := w_getR dX9_tiredIn_63 (t := 8) (j := 1) (c := 2) (by decide +kernel) (by decide) rfl (ln_ok (by decide) (by decide)) ha
theorem s154_66  : wp 154 66 [l0, .inl x, l2] [v0] h Q ↔ wp 154 67 [l0, .inl x, l2] [.inl x, v0] h Q := wp_step dX9_tiredIn_66 (fun _ => rfl)
theorem s154_67  : wp 154 67 [l0, l1, l2] [p1, p0] h Q ↔ wp 123 0 [p0, p1] [] h (kont 154 70 [l0, l1, l2] [] Q) := w_callS (y2 := 123) (kd := 0) (vs := [p0, p1]) (st := []) dX9_tiredIn_67 (by decide +kernel) (by decide) rfl (by decide +kernel) (Nat.le_of_ble_eq_true rfl) (by simp)
theorem s154_70  : wp 154 70 [l0, l1, .inl x] [] h Q ↔ wp 154 73 [l0, l1, .inl (w32 (x + 1))] [] h Q := wp_step dX9_tiredIn_70 (fun _ => rfl)
theorem s154_73  : wp 154 73 [l0, l1, l2] [] h Q ↔ wp 154 39 [l0, l1, l2] [] h Q := w_goto dX9_tiredIn_73 (by decide)
theorem s154_76 (h0 : a ≠ 0) : wp 154 76 [.inr a, l1, l2] [] h Q ↔ wp 154 77 [.inr a, l1, l2] [.inr a] h Q := wp_step dX9_tiredIn_76 (fun _ => if_neg h0)
theorem s154_77 (ha : tg a = 8) : wp 154 77 [l0, l1, l2] [.inr a] (hp S D) Q ↔ wp 154 80 [l0, l1, l2] [.inr (a + 2)] (hp S D) Q := w_getR dX9_tiredIn_77 (t := 8) (j := 1) (c := 2) (by decide +kernel) (by decide) rfl (ln_ok (by decide) (by decide)) ha
theorem s154_80  : wp 154 80 [l0, .inl x, l2] [v0] h Q ↔ wp 154 81 [l0, .inl x, l2] [.inl x, v0] h Q := wp_step dX9_tiredIn_80 (fun _ => rfl)
theorem s154_81  : wp 154 81 [l0, l1, l2] [v0, v1] h Q ↔ wp 154 82 [l0, l1, l2] [.inl 3, v0, v1] h Q := w_const1 dX9_tiredIn_81 k_3
theorem s154_82  : wp 154 82 [l0, l1, l2] [p2, p1, p0] h Q ↔ wp 106 0 [p0, p1, p2] [] h (kont 154 85 [l0, l1, l2] [] Q) := w_callS (y2 := 106) (kd := 0) (vs := [p0, p1, p2]) (st := []) dX9_tiredIn_82 (by decide +kernel) (by decide) rfl (by decide +kernel) (Nat.le_of_ble_eq_true rfl) (by simp)
theorem s154_85  : wp 154 85 [l0, l1, l2] [v0] h Q ↔ wp 154 86 [l0, l1, l2] [.inl 1, v0] h Q := w_const1 dX9_tiredIn_85 k_1
theorem s154_86  : wp 154 86 [l0, l1, l2] [.inl z, .inl x] h Q ↔ if x = z then wp 154 89 [l0, l1, l2] [] h Q else wp 154 93 [l0, l1, l2] [] h Q := w_cne dX9_tiredIn_86 (by decide)
theorem s154_89  : wp 154 89 [l0, l1, .inl x] [] h Q ↔ wp 154 90 [l0, l1, .inl x] [.inl x] h Q := wp_step dX9_tiredIn_89 (fun _ => rfl)
theorem s154_90  : wp 154 90 [l0, l1, l2] [v0] h Q ↔ wp 154 95 [l0, l1, l2] [v0] h Q := w_goto dX9_tiredIn_90 (by decide)
theorem s154_93  : wp 154 93 [l0, l1, l2] [] h Q ↔ wp 154 95 [l0, l1, l2] [.inl (-5)] h Q := w_const2 dX9_tiredIn_93 k_m5 k8_m5
theorem s154_95  : wp 154 95 [l0, l1, l2] [.inl x] h Q ↔ Q (some (.inl x)) h := w_reti dX9_tiredIn_95 (e_ri (by decide +kernel))
theorem s155_0 (h0 : a ≠ 0) : wp 155 0 [.inr a, l1] [] h Q ↔ wp 155 1 [.inr a, l1] [.inr a] h Q := wp_step dX9_darkIn_0 (fun _ => if_neg h0)
theorem s155_1 (ha : tg a = 8) : wp 155 1 [l0, l1] [.inr a] (hp S D) Q ↔ wp 155 4 [l0, l1] [.inr (a + 1)] (hp S D) Q := w_getR dX9_darkIn_1 (t := 8) (j := 0) (c := 2) (by decide +kernel) (by decide) rfl (ln_ok (by decide) (by decide)) ha
theorem s155_4  : wp 155 4 [l0, l1] [v0] h Q ↔ wp 155 5 [l0, l1] [.inl 0, v0] h Q := w_const1 dX9_darkIn_4 k_0
theorem s155_5 (h0 : a ≠ 0) : wp 155 5 [.inr a, l1] [v0, v1] h Q ↔ wp 155 6 [.inr a, l1] [.inr a, v0, v1] h Q := wp_step dX9_darkIn_5 (fun _ => if_neg h0)
theorem s155_6 (ha : tg a = 8) : wp 155 6 [l0, l1] [.inr a, v0, v1] (hp S D) Q ↔ wp 155 9 [l0, l1] [.inr (a + 2), v0, v1] (hp S D) Q := w_getR dX9_darkIn_6 (t := 8) (j := 1) (c := 2) (by decide +kernel) (by decide) rfl (ln_ok (by decide) (by decide)) ha
theorem s155_9  : wp 155 9 [l0, l1] [v0, v1, v2] h Q ↔ wp 155 10 [l0, l1] [.inl 0, v0, v1, v2] h Q := w_const1 dX9_darkIn_9 k_0
theorem s155_10  : wp 155 10 [l0, l1] [p3, p2, p1, p0] h Q ↔ wp 101 0 [p0, p1, p2, p3, .inr 0] [] h (kont 155 13 [l0, l1] [] Q) := w_callS (y2 := 101) (kd := 0) (vs := [p0, p1, p2, p3]) (st := []) dX9_darkIn_10 (by decide +kernel) (by decide) rfl (by decide +kernel) (Nat.le_of_ble_eq_true rfl) (by simp)
theorem s155_13  : wp 155 13 [l0, l1] [] h Q ↔ wp 155 14 [l0, l1] [.inl 0] h Q := w_const1 dX9_darkIn_13 k_0
theorem s155_14  : wp 155 14 [l0, l1] [.inl x] h Q ↔ wp 155 15 [l0, .inl x] [] h Q := wp_step dX9_darkIn_14 (fun _ => rfl)
theorem s155_15  : wp 155 15 [l0, .inl x] [] h Q ↔ wp 155 16 [l0, .inl x] [.inl x] h Q := wp_step dX9_darkIn_15 (fun _ => rfl)
theorem s155_16  : wp 155 16 [l0, l1] [v0] h Q ↔ wp 155 19 [l0, l1] [.inl 3000, v0] h Q := w_const3 dX9_darkIn_16 k_3000 k16_3000
theorem s155_19  : wp 155 19 [l0, l1] [.inl z, .inl x] h Q ↔ if z < x then wp 155 41 [l0, l1] [] h Q else wp 155 22 [l0, l1] [] h Q := w_cgt dX9_darkIn_19 (by decide)
theorem s155_22 (h0 : a ≠ 0) : wp 155 22 [.inr a, l1] [] h Q ↔ wp 155 23 [.inr a, l1] [.inr a] h Q := wp_step dX9_darkIn_22 (fun _ => if_neg h0)
theorem s155_23 (ha : tg a = 8) : wp 155 23 [l0, l1] [.inr a] (hp S D) Q ↔ wp 155 26 [l0, l1] [.inr (a + 2)] (hp S D) Q := w_getR dX9_darkIn_23 (t := 8) (j := 1) (c := 2) (by decide +kernel) (by decide) rfl (ln_ok (by decide) (by decide)) ha
theorem s155_26  : wp 155 26 [l0, l1] [v0] h Q ↔ wp 155 27 [l0, l1] [.inl 0, v0] h Q := w_const1 dX9_darkIn_26 k_0
theorem s155_27  : wp 155 27 [l0, l1] [p1, p0] h Q ↔ wp 128 0 [p0, p1, .inr 0, .inr 0, .inr 0, .inr 0, .inr 0] [] h (kont 155 30 [l0, l1] [] Q) := w_callS (y2 := 128) (kd := 0) (vs := [p0, p1]) (st := []) dX9_darkIn_27 (by decide +kernel) (by decide) rfl (by decide +kernel) (Nat.le_of_ble_eq_true rfl) (by simp)
theorem s155_30  : wp 155 30 [l0, l1] [.inl x] h Q ↔ if x = 0 then wp 155 35 [l0, l1] [] h Q else wp 155 33 [l0, l1] [] h Q := w_eq0 dX9_darkIn_30 (by decide)
theorem s155_33  : wp 155 33 [l0, .inl x] [] h Q ↔ wp 155 34 [l0, .inl x] [.inl x] h Q := wp_step dX9_darkIn_33 (fun _ => rfl)
theorem s155_34  : wp 155 34 [l0, l1] [.inl x] h Q ↔ Q (some (.inl x)) h := w_reti dX9_darkIn_34 (e_ri (by decide +kernel))
theorem s155_35  : wp 155 35 [l0, .inl x] [] h Q ↔ wp 155 38 [l0, .inl (w32 (x + 1))] [] h Q := wp_step dX9_darkIn_35 (fun _ => rfl)
theorem s155_38  : wp 155 38 [l0, l1] [] h Q ↔ wp 155 15 [l0, l1] [] h Q := w_goto dX9_darkIn_38 (by decide)
theorem s155_41  : wp 155 41 [l0, l1] [] h Q ↔ wp 155 43 [l0, l1] [.inl (-5)] h Q := w_const2 dX9_darkIn_41 k_m5 k8_m5
theorem s155_43  : wp 155 43 [l0, l1] [.inl x] h Q ↔ Q (some (.inl x)) h := w_reti dX9_darkIn_43 (e_ri (by decide +kernel))
theorem s156_0 (h0 : a ≠ 0) : wp 156 0 [.inr a, l1] [] h Q ↔ wp 156 1 [.inr a, l1] [.inr a] h Q := wp_step dX9_left_0 (fun _ => if_neg h0)
theorem s156_1 (ha : tg a = 8) : wp 156 1 [l0, l1] [.inr a] (hp S D) Q ↔ wp 156 4 [l0, l1] [.inr (a + 1)] (hp S D) Q := w_getR dX9_left_1 (t := 8) (j := 0) (c := 2) (by decide +kernel) (by decide) rfl (ln_ok (by decide) (by decide)) ha
theorem s156_4  : wp 156 4 [l0, .inl x] [v0] h Q ↔ wp 156 5 [l0, .inl x] [.inl x, v0] h Q := wp_step dX9_left_4 (fun _ => rfl)
theorem s156_5  : wp 156 5 [l0, l1] [p1, p0] h Q ↔ wp 112 0 [p0, p1] [] h (kont 156 8 [l0, l1] [] Q) := w_callS (y2 := 112) (kd := 0) (vs := [p0, p1]) (st := []) dX9_left_5 (by decide +kernel) (by decide) rfl (by decide +kernel) (Nat.le_of_ble_eq_true rfl) (by simp)
theorem s156_8 (h0 : a ≠ 0) : wp 156 8 [.inr a, l1] [v0] h Q ↔ wp 156 9 [.inr a, l1] [.inr a, v0] h Q := wp_step dX9_left_8 (fun _ => if_neg h0)
theorem s156_9 (ha : tg a = 8) : wp 156 9 [l0, l1] [.inr a, v0] (hp S D) Q ↔ wp 156 12 [l0, l1] [.inr (a + 1), v0] (hp S D) Q := w_getR dX9_left_9 (t := 8) (j := 0) (c := 2) (by decide +kernel) (by decide) rfl (ln_ok (by decide) (by decide)) ha
theorem s156_12  : wp 156 12 [l0, .inl x] [v0, v1] h Q ↔ wp 156 13 [l0, .inl x] [.inl x, v0, v1] h Q := wp_step dX9_left_12 (fun _ => rfl)
theorem s156_13  : wp 156 13 [l0, l1] [v0, v1, v2] h Q ↔ wp 156 14 [l0, l1] [.inl 2, v0, v1, v2] h Q := w_const1 dX9_left_13 k_2
theorem s156_14  : wp 156 14 [l0, l1] [p2, p1, p0, v0] h Q ↔ wp 106 0 [p0, p1, p2] [] h (kont 156 17 [l0, l1] [v0] Q) := w_callS (y2 := 106) (kd := 0) (vs := [p0, p1, p2]) (st := [v0]) dX9_left_14 (by decide +kernel) (by decide) rfl (by decide +kernel) (Nat.le_of_ble_eq_true rfl) (by simp)
theorem s156_17  : wp 156 17 [l0, l1] [.inl z, .inl x] h Q ↔ wp 156 18 [l0, l1] [.inl (w32 (x - z))] h Q := wp_step dX9_left_17 (fun _ => rfl)
theorem s156_18  : wp 156 18 [l0, l1] [.inl x] h Q ↔ Q (some (.inl x)) h := w_reti dX9_left_18 (e_ri (by decide +kernel))
theorem s157_0  : wp 157 0 [l0, .inl x, l2, l3, l4, l5] [] h Q ↔ wp 157 1 [l0, .inl x, l2, l3, l4, l5] [.inl x] h Q := wp_step dX9_ranked_0 (fun _ => rfl)
theorem s157_1  : wp 157 1 [l0, l1, l2, l3, l4, l5] [.inl x] h Q ↔ if x < 0 then wp 157 4 [l0, l1, l2, l3, l4, l5] [] h Q else wp 157 7 [l0, l1, l2, l3, l4, l5] [] h Q := w_ge0 dX9_ranked_1 (by decide)
theorem s157_4  : wp 157 4 [l0, l1, l2, l3, l4, l5] [] h Q ↔ wp 157 6 [l0, l1, l2, l3, l4, l5] [.inl (-2)] h Q := w_const2 dX9_ranked_4 k_m2 k8_m2
theorem s157_6  : wp 157 6 [l0, l1, l2, l3, l4, l5] [.inl x] h Q ↔ Q (some (.inl x)) h := w_reti dX9_ranked_6 (e_ri (by decide +kernel))
theorem s157_7  : wp 157 7 [l0, l1, l2, l3, l4, l5] [] h Q ↔ wp 157 8 [l0, l1, l2, l3, l4, l5] [.inl 0] h Q := w_const1 dX9_ranked_7 k_0
theorem s157_8  : wp 157 8 [l0, l1, l2, l3, l4, l5] [.inl x] h Q ↔ wp 157 9 [l0, l1, .inl x, l3, l4, l5] [] h Q := wp_step dX9_ranked_8 (fun _ => rfl)
theorem s157_9  : wp 157 9 [l0, l1, .inl x, l3, l4, l5] [] h Q ↔ wp 157 10 [l0, l1, .inl x, l3, l4, l5] [.inl x] h Q := wp_step dX9_ranked_9 (fun _ => rfl)
theorem s157_10  : wp 157 10 [l0, l1, l2, l3, l4, l5] [v0] h Q ↔ wp 157 12 [l0, l1, l2, l3, l4, l5] [.inl 6, v0] h Q := w_const2 dX9_ranked_10 k_6 k8_6
theorem s157_12  : wp 157 12 [l0, l1, l2, l3, l4, l5] [.inl z, .inl x] h Q ↔ if x < z then wp 157 15 [l0, l1, l2, l3, l4, l5] [] h Q else wp 157 137 [l0, l1, l2, l3, l4, l5] [] h Q := w_cge dX9_ranked_12 (by decide)
theorem s157_15  : wp 157 15 [l0, l1, l2, l3, l4, l5] [] h Q ↔ wp 157 16 [l0, l1, l2, l3, l4, l5] [.inl 0] h Q := w_const1 dX9_ranked_15 k_0
theorem s157_16  : wp 157 16 [l0, l1, l2, l3, l4, l5] [.inl x] h Q ↔ wp 157 17 [l0, l1, l2, .inl x, l4, l5] [] h Q := wp_step dX9_ranked_16 (fun _ => rfl)
theorem s157_17  : wp 157 17 [l0, l1, l2, l3, l4, l5] [] h Q ↔ wp 157 18 [l0, l1, l2, l3, l4, l5] [.inl 0] h Q := w_const1 dX9_ranked_17 k_0
theorem s157_18  : wp 157 18 [l0, l1, l2, l3, l4, l5] [.inl x] h Q ↔ wp 157 20 [l0, l1, l2, l3, .inl x, l5] [] h Q := wp_step dX9_ranked_18 (fun _ => rfl)
theorem s157_20  : wp 157 20 [l0, l1, l2, l3, .inl x, l5] [] h Q ↔ wp 157 22 [l0, l1, l2, l3, .inl x, l5] [.inl x] h Q := wp_step dX9_ranked_20 (fun _ => rfl)
theorem s157_22  : wp 157 22 [l0, l1, l2, l3, l4, l5] [v0] h Q ↔ wp 157 24 [l0, l1, l2, l3, l4, l5] [.inl 6, v0] h Q := w_const2 dX9_ranked_22 k_6 k8_6
theorem s157_24  : wp 157 24 [l0, l1, l2, l3, l4, l5] [.inl z, .inl x] h Q ↔ if x < z then wp 157 27 [l0, l1, l2, l3, l4, l5] [] h Q else wp 157 112 [l0, l1, l2, l3, l4, l5] [] h Q := w_cge dX9_ranked_24 (by decide)
theorem s157_27 (h0 : a ≠ 0) : wp 157 27 [.inr a, l1, l2, l3, l4, l5] [] h Q ↔ wp 157 28 [.inr a, l1, l2, l3, l4, l5] [.inr a] h Q := wp_step dX9_ranked_27 (fun _ => if_neg h0)
theorem s157_28 (ha : tg a = 8) : wp 157 28 [l0, l1, l2, l3, l4, l5] [.inr a] (hp S D) Q ↔ wp 157 31 [l0, l1, l2, l3, l4, l5] [.inr (a + 1)] (hp S D) Q := w_getR dX9_ranked_28 (t := 8) (j := 0) (c := 2) (by decide +kernel) (by decide) rfl (ln_ok (by decide) (by decide)) ha
theorem s157_31  : wp 157 31 [l0, l1, .inl x, l3, l4, l5] [v0] h Q ↔ wp 157 32 [l0, l1, .inl x, l3, l4, l5] [.inl x, v0] h Q := wp_step dX9_ranked_31 (fun _ => rfl)
theorem s157_32  : wp 157 32 [l0, l1, l2, l3, l4, l5] [v0, v1] h Q ↔ wp 157 33 [l0, l1, l2, l3, l4, l5] [.inl 0, v0, v1] h Q := w_const1 dX9_ranked_32 k_0
theorem s157_33  : wp 157 33 [l0, l1, l2, l3, l4, l5] [p2, p1, p0] h Q ↔ wp 117 0 [p0, p1, p2] [] h (kont 157 36 [l0, l1, l2, l3, l4, l5] [] Q) := w_callS (y2 := 117) (kd := 0) (vs := [p0, p1, p2]) (st := []) dX9_ranked_33 (by decide +kernel) (by decide) rfl (by decide +kernel) (Nat.le_of_ble_eq_true rfl) (by simp)
theorem s157_36  : wp 157 36 [l0, l1, l2, l3, l4, l5] [.inl x] h Q ↔ if x = 0 then wp 157 112 [l0, l1, l2, l3, l4, l5] [] h Q else wp 157 39 [l0, l1, l2, l3, l4, l5] [] h Q := w_eq0 dX9_ranked_36 (by decide)
theorem s157_39 (h0 : a ≠ 0) : wp 157 39 [.inr a, l1, l2, l3, l4, l5] [] h Q ↔ wp 157 40 [.inr a, l1, l2, l3, l4, l5] [.inr a] h Q := wp_step dX9_ranked_39 (fun _ => if_neg h0)
theorem s157_40 (ha : tg a = 8) : wp 157 40 [l0, l1, l2, l3, l4, l5] [.inr a] (hp S D) Q ↔ wp 157 43 [l0, l1, l2, l3, l4, l5] [.inr (a + 1)] (hp S D) Q := w_getR dX9_ranked_40 (t := 8) (j := 0) (c := 2) (by decide +kernel) (by decide) rfl (ln_ok (by decide) (by decide)) ha
theorem s157_43  : wp 157 43 [l0, l1, l2, l3, .inl x, l5] [v0] h Q ↔ wp 157 45 [l0, l1, l2, l3, .inl x, l5] [.inl x, v0] h Q := wp_step dX9_ranked_43 (fun _ => rfl)
theorem s157_45  : wp 157 45 [l0, l1, l2, l3, l4, l5] [v0, v1] h Q ↔ wp 157 46 [l0, l1, l2, l3, l4, l5] [.inl 0, v0, v1] h Q := w_const1 dX9_ranked_45 k_0
theorem s157_46  : wp 157 46 [l0, l1, l2, l3, l4, l5] [p2, p1, p0] h Q ↔ wp 117 0 [p0, p1, p2] [] h (kont 157 49 [l0, l1, l2, l3, l4, l5] [] Q) := w_callS (y2 := 117) (kd := 0) (vs := [p0, p1, p2]) (st := []) dX9_ranked_46 (by decide +kernel) (by decide) rfl (by decide +kernel) (Nat.le_of_ble_eq_true rfl) (by simp)
theorem s157_49  : wp 157 49 [l0, l1, l2, l3, l4, l5] [.inl x] h Q ↔ if x = 0 then wp 157 90 [l0, l1, l2, l3, l4, l5] [] h Q else wp 157 52 [l0, l1, l2, l3, l4, l5] [] h Q := w_eq0 dX9_ranked_49 (by decide)
theorem s157_52 (h0 : a ≠ 0) : wp 157 52 [.inr a, l1, l2, l3, l4, l5] [] h Q ↔ wp 157 53 [.inr a, l1, l2, l3, l4, l5] [.inr a] h Q := wp_step dX9_ranked_52 (fun _ => if_neg h0)
theorem s157_53  : wp 157 53 [l0, l1, l2, l3, .inl x, l5] [v0] h Q ↔ wp 157 55 [l0, l1, l2, l3, .inl x, l5] [.inl x, v0] h Q := wp_step dX9_ranked_53 (fun _ => rfl)
theorem s157_55 (ha : tg a = 8) : wp 157 55 [l0, l1, l2, l3, l4, l5] [p0, .inr a] (hp S D) Q ↔ wp 156 0 [.inr a, p0] [] (hp S D) (kont 157 58 [l0, l1, l2, l3, l4, l5] [] Q) := w_callV (y2 := 156) (vs := [p0]) (st := []) dX9_ranked_55 (by decide +kernel) rfl (by decide +kernel) (Nat.le_of_ble_eq_true rfl) (by simp) 8 rfl (by decide) ha
theorem s157_58 (h0 : a ≠ 0) : wp 157 58 [.inr a, l1, l2, l3, l4, l5] [v0] h Q ↔ wp 157 59 [.inr a, l1, l2, l3, l4, l5] [.inr a, v0] h Q := wp_step dX9_ranked_58 (fun _ => if_neg h0)
theorem s157_59  : wp 157 59 [l0, l1, .inl x, l3, l4, l5] [v0, v1] h Q ↔ wp 157 60 [l0, l1, .inl x, l3, l4, l5] [.inl x, v0, v1] h Q := wp_step dX9_ranked_59 (fun _ => rfl)
theorem s157_60 (ha : tg a = 8) : wp 157 60 [l0, l1, l2, l3, l4, l5] [p0, .inr a, v0] (hp S D) Q ↔ wp 156 0 [.inr a, p0] [] (hp S D) (kont 157 63 [l0, l1, l2, l3, l4, l5] [v0] Q) := w_callV (y2 := 156) (vs := [p0]) (st := [v0]) dX9_ranked_60 (by decide +kernel) rfl (by decide +kernel) (Nat.le_of_ble_eq_true rfl) (by simp) 8 rfl (by decide) ha
theorem s157_63  : wp 157 63 [l0, l1, l2, l3, l4, l5] [.inl z, .inl x] h Q ↔ if z < x then wp 157 86 [l0, l1, l2, l3, l4, l5] [] h Q else wp 157 66 [l0, l1, l2, l3, l4, l5] [] h Q := w_cgt dX9_ranked_63 (by decide)
theorem s157_66 (h0 : a ≠ 0) : wp 157 66 [.inr a, l1, l2, l3, l4, l5] [] h Q ↔ wp 157 67 [.inr a, l1, l2, l3, l4, l5] [.inr a] h Q := wp_step dX9_ranked_66 (fun _ => if_neg h0)
theorem s157_67  : wp 157 67 [l0, l1, l2, l3, .inl x, l5] [v0] h Q ↔ wp 157 69 [l0, l1, l2, l3, .inl x, l5] [.inl x, v0] h Q := wp_step dX9_ranked_67 (fun _ => rfl)
theorem s157_69 (ha : tg a = 8) : wp 157 69 [l0, l1, l2, l3, l4, l5] [p0, .inr a] (hp S D) Q ↔ wp 156 0 [.inr a, p0] [] (hp S D) (kont 157 72 [l0, l1, l2, l3, l4, l5] [] Q) := w_callV (y2 := 156) (vs := [p0]) (st := []) dX9_ranked_69 (by decide +kernel) rfl (by decide +kernel) (Nat.le_of_ble_eq_true rfl) (by simp) 8 rfl (by decide) ha
theorem s157_72 (h0 : a ≠ 0) : wp 157 72 [.inr a, l1, l2, l3, l4, l5] [v0] h Q ↔ wp 157 73 [.inr a, l1, l2, l3, l4, l5] [.inr a, v0] h Q := wp_step dX9_ranked_72 (fun _ => if_neg h0)
theorem s157_73  : wp 157 73 [l0, l1, .inl x, l3, l4, l5] [v0, v1] h Q ↔ wp 157 74 [l0, l1, .inl x, l3, l4, l5] [.inl x, v0, v1] h Q := wp_step dX9_ranked_73 (fun _ => rfl)
theorem s157_74 (ha : tg a = 8) : wp 157 74 [l0, l1, l2, l3, l4, l5] [p0, .inr a, v0] (hp S D) Q ↔ wp 156 0 [.inr a, p0] [] (hp S D) (kont 157 77 [l0, l1, l2, l3, l4, l5] [v0] Q) := w_callV (y2 := 156) (vs := [p0]) (st := [v0]) dX9_ranked_74 (by decide +kernel) rfl (by decide +kernel) (Nat.le_of_ble_eq_true rfl) (by simp) 8 rfl (by decide) ha
theorem s157_77  : wp 157 77 [l0, l1, l2, l3, l4, l5] [.inl z, .inl x] h Q ↔ if x = z then wp 157 80 [l0, l1, l2, l3, l4, l5] [] h Q else wp 157 90 [l0, l1, l2, l3, l4, l5] [] h Q := w_cne dX9_ranked_77 (by decide)
theorem s157_80  : wp 157 80 [l0, l1, l2, l3, .inl x, l5] [] h Q ↔ wp 157 82 [l0, l1, l2, l3, .inl x, l5] [.inl x] h Q := wp_step dX9_ranked_80 (fun _ => rfl)
theorem s157_82  : wp 157 82 [l0, l1, .inl x, l3, l4, l5] [v0] h Q ↔ wp 157 83 [l0, l1, .inl x, l3, l4, l5] [.inl x, v0] h Q := wp_step dX9_ranked_82 (fun _ => rfl)
theorem s157_83  : wp 157 83 [l0, l1, l2, l3, l4, l5] [.inl z, .inl x] h Q ↔ if x < z then wp 157 86 [l0, l1, l2, l3, l4, l5] [] h Q else wp 157 90 [l0, l1, l2, l3, l4, l5] [] h Q := w_cge dX9_ranked_83 (by decide)
theorem s157_86  : wp 157 86 [l0, l1, l2, l3, l4, l5] [] h Q ↔ wp 157 87 [l0, l1, l2, l3, l4, l5] [.inl 1] h Q := w_const1 dX9_ranked_86 k_1
theorem s157_87  : wp 157 87 [l0, l1, l2, l3, l4, l5] [v0] h Q ↔ wp 157 91 [l0, l1, l2, l3, l4, l5] [v0] h Q := w_goto dX9_ranked_87 (by decide)
theorem s157_90  : wp 157 90 [l0, l1, l2, l3, l4, l5] [] h Q ↔ wp 157 91 [l0, l1, l2, l3, l4, l5] [.inl 0] h Q := w_const1 dX9_ranked_90 k_0
theorem s157_91  : wp 157 91 [l0, l1, l2, l3, l4, l5] [.inl x] h Q ↔ wp 157 93 [l0, l1, l2, l3, l4, .inl x] [] h Q := wp_step dX9_ranked_91 (fun _ => rfl)
theorem s157_93  : wp 157 93 [l0, l1, l2, .inl x, l4, l5] [] h Q ↔ wp 157 94 [l0, l1, l2, .inl x, l4, l5] [.inl x] h Q := wp_step dX9_ranked_93 (fun _ => rfl)
theorem s157_94  : wp 157 94 [l0, l1, l2, l3, l4, .inl x] [v0] h Q ↔ wp 157 96 [l0, l1, l2, l3, l4, .inl x] [.inl x, v0] h Q := wp_step dX9_ranked_94 (fun _ => rfl)
theorem s157_96  : wp 157 96 [l0, l1, l2, l3, l4, l5] [.inl x, v0] h Q ↔ if x = 0 then wp 157 103 [l0, l1, l2, l3, l4, l5] [v0] h Q else wp 157 99 [l0, l1, l2, l3, l4, l5] [v0] h Q := w_eq0 dX9_ranked_96 (by decide)
theorem s157_99  : wp 157 99 [l0, l1, l2, l3, l4, l5] [v0] h Q ↔ wp 157 100 [l0, l1, l2, l3, l4, l5] [.inl 1, v0] h Q := w_const1 dX9_ranked_99 k_1
theorem s157_100  : wp 157 100 [l0, l1, l2, l3, l4, l5] [v0, v1] h Q ↔ wp 157 104 [l0, l1, l2, l3, l4, l5] [v0, v1] h Q := w_goto dX9_ranked_100 (by decide)
theorem s157_103  : wp 157 103 [l0, l1, l2, l3, l4, l5] [v0] h Q ↔ wp 157 104 [l0, l1, l2, l3, l4, l5] [.inl 0, v0] h Q := w_const1 dX9_ranked_103 k_0
theorem s157_104  : wp 157 104 [l0, l1, l2, l3, l4, l5] [.inl z, .inl x] h Q ↔ wp 157 105 [l0, l1, l2, l3, l4, l5] [.inl (w32 (x + z))] h Q := wp_step dX9_ranked_104 (fun _ => rfl)
theorem s157_105  : wp 157 105 [l0, l1, l2, l3, l4, l5] [.inl x] h Q ↔ wp 157 106 [l0, l1, l2, .inl x, l4, l5] [] h Q := wp_step dX9_ranked_105 (fun _ => rfl)
theorem s157_106  : wp 157 106 [l0, l1, l2, l3, .inl x, l5] [] h Q ↔ wp 157 109 [l0, l1, l2, l3, .inl (w32 (x + 1)), l5] [] h Q := wp_step dX9_ranked_106 (fun _ => rfl)
theorem s157_109  : wp 157 109 [l0, l1, l2, l3, l4, l5] [] h Q ↔ wp 157 20 [l0, l1, l2, l3, l4, l5] [] h Q := w_goto dX9_ranked_109 (by decide)
theorem s157_112 (h0 : a ≠ 0) : wp 157 112 [.inr a, l1, l2, l3, l4, l5] [] h Q ↔ wp 157 113 [.inr a, l1, l2, l3, l4, l5] [.inr a] h Q := wp_step dX9_ranked_112 (fun _ => if_neg h0)
theorem s157_113 (ha : tg a = 8) : wp 157 113 [l0, l1, l2, l3, l4, l5] [.inr a] (hp S D) Q ↔ wp 157 116 [l0, l1, l2, l3, l4, l5] [.inr (a + 1)] (hp S D) Q := w_getR dX9_ranked_113 (t := 8) (j := 0) (c := 2) (by decide +kernel) (by decide) rfl (ln_ok (by decide) (by decide)) ha
theorem s157_116  : wp 157 116 [l0, l1, .inl x, l3, l4, l5] [v0] h Q ↔ wp 157 117 [l0, l1, .inl x, l3, l4, l5] [.inl x, v0] h Q := wp_step dX9_ranked_116 (fun _ => rfl)
theorem s157_117  : wp 157 117 [l0, l1, l2, l3, l4, l5] [v0, v1] h Q ↔ wp 157 118 [l0, l1, l2, l3, l4, l5] [.inl 0, v0, v1] h Q := w_const1 dX9_ranked_117 k_0
theorem s157_118  : wp 157 118 [l0, l1, l2, l3, l4, l5] [p2, p1, p0] h Q ↔ wp 117 0 [p0, p1, p2] [] h (kont 157 121 [l0, l1, l2, l3, l4, l5] [] Q) := w_callS (y2 := 117) (kd := 0) (vs := [p0, p1, p2]) (st := []) dX9_ranked_118 (by decide +kernel) (by decide) rfl (by decide +kernel) (Nat.le_of_ble_eq_true rfl) (by simp)
theorem s157_121  : wp 157 121 [l0, l1, l2, l3, l4, l5] [.inl x] h Q ↔ if x = 0 then wp 157 131 [l0, l1, l2, l3, l4, l5] [] h Q else wp 157 124 [l0, l1, l2, l3, l4, l5] [] h Q := w_eq0 dX9_ranked_121 (by decide)
theorem s157_124  : wp 157 124 [l0, l1, l2, .inl x, l4, l5] [] h Q ↔ wp 157 125 [l0, l1, l2, .inl x, l4, l5] [.inl x] h Q := wp_step dX9_ranked_124 (fun _ => rfl)
theorem s157_125  : wp 157 125 [l0, .inl x, l2, l3, l4, l5] [v0] h Q ↔ wp 157 126 [l0, .inl x, l2, l3, l4, l5] [.inl x, v0] h Q := wp_step dX9_ranked_125 (fun _ => rfl)
theorem s157_126  : wp 157 126 [l0, l1, l2, l3, l4, l5] [.inl z, .inl x] h Q ↔ if x = z then wp 157 129 [l0, l1, l2, l3, l4, l5] [] h Q else wp 157 131 [l0, l1, l2, l3, l4, l5] [] h Q := w_cne dX9_ranked_126 (by decide)
theorem s157_129  : wp 157 129 [l0, l1, .inl x, l3, l4, l5] [] h Q ↔ wp 157 130 [l0, l1, .inl x, l3, l4, l5] [.inl x] h Q := wp_step dX9_ranked_129 (fun _ => rfl)
theorem s157_130  : wp 157 130 [l0, l1, l2, l3, l4, l5] [.inl x] h Q ↔ Q (some (.inl x)) h := w_reti dX9_ranked_130 (e_ri (by decide +kernel))
theorem s157_131  : wp 157 131 [l0, l1, .inl x, l3, l4, l5] [] h Q ↔ wp 157 134 [l0, l1, .inl (w32 (x + 1)), l3, l4, l5] [] h Q := wp_step dX9_ranked_131 (fun _ => rfl)
theorem s157_134  : wp 157 134 [l0, l1, l2, l3, l4, l5] [] h Q ↔ wp 157 9 [l0, l1, l2, l3, l4, l5] [] h Q := w_goto dX9_ranked_134 (by decide)
theorem s157_137  : wp 157 137 [l0, l1, l2, l3, l4, l5] [] h Q ↔ wp 157 139 [l0, l1, l2, l3, l4, l5] [.inl (-5)] h Q := w_const2 dX9_ranked_137 k_m5 k8_m5
theorem s157_139  : wp 157 139 [l0, l1, l2, l3, l4, l5] [.inl x] h Q ↔ Q (some (.inl x)) h := w_reti dX9_ranked_139 (e_ri (by decide +kernel))
theorem s158_0  : wp 158 0 [l0, .inl x, l2] [] h Q ↔ wp 158 1 [l0, .inl x, l2] [.inl x] h Q := wp_step dX9_planned_0 (fun _ => rfl)
theorem s158_1  : wp 158 1 [l0, l1, l2] [.inl x] h Q ↔ if x < 0 then wp 158 13 [l0, l1, l2] [] h Q else wp 158 4 [l0, l1, l2] [] h Q := w_lt0 dX9_planned_1 (by decide)
theorem s158_4  : wp 158 4 [l0, l1, .inl x] [] h Q ↔ wp 158 5 [l0, l1, .inl x] [.inl x] h Q := wp_step dX9_planned_4 (fun _ => rfl)
theorem s158_5  : wp 158 5 [l0, l1, l2] [v0] h Q ↔ wp 158 6 [l0, l1, l2] [.inl 0, v0] h Q := w_const1 dX9_planned_5 k_0
theorem s158_6  : wp 158 6 [l0, l1, l2] [v0, v1] h Q ↔ wp 158 7 [l0, l1, l2] [.inl 2, v0, v1] h Q := w_const1 dX9_planned_6 k_2
theorem s158_7  : wp 158 7 [l0, l1, l2] [p2, p1, p0] h Q ↔ wp 99 0 [p0, p1, p2] [] h (kont 158 10 [l0, l1, l2] [] Q) := w_callS (y2 := 99) (kd := 0) (vs := [p0, p1, p2]) (st := []) dX9_planned_7 (by decide +kernel) (by decide) rfl (by decide +kernel) (Nat.le_of_ble_eq_true rfl) (by simp)
theorem s158_10  : wp 158 10 [l0, l1, l2] [.inl x] h Q ↔ if x = 0 then wp 158 13 [l0, l1, l2] [] h Q else wp 158 16 [l0, l1, l2] [] h Q := w_ne0 dX9_planned_10 (by decide)
theorem s158_13  : wp 158 13 [l0, l1, l2] [] h Q ↔ wp 158 15 [l0, l1, l2] [.inl (-2)] h Q := w_const2 dX9_planned_13 k_m2 k8_m2
theorem s158_15  : wp 158 15 [l0, l1, l2] [.inl x] h Q ↔ Q (some (.inl x)) h := w_reti dX9_planned_15 (e_ri (by decide +kernel))
theorem s158_16  : wp 158 16 [l0, .inl x, l2] [] h Q ↔ wp 158 17 [l0, .inl x, l2] [.inl x] h Q := wp_step dX9_planned_16 (fun _ => rfl)
theorem s158_17 (h0 : a ≠ 0) : wp 158 17 [.inr a, l1, l2] [v0] h Q ↔ wp 158 18 [.inr a, l1, l2] [.inr a, v0] h Q := wp_step dX9_planned_17 (fun _ => if_neg h0)
theorem s158_18 (ha : tg a = 8) : wp 158 18 [l0, l1, l2] [.inr a, v0] (hp S D) Q ↔ wp 158 21 [l0, l1, l2] [.inr (a + 1), v0] (hp S D) Q := w_getR dX9_planned_18 (t := 8) (j := 0) (c := 2) (by decide +kernel) (by decide) rfl (ln_ok (by decide) (by decide)) ha
theorem s158_21  : wp 158 21 [l0, l1, l2] [v0, v1] h Q ↔ wp 158 23 [l0, l1, l2] [.inl 49, v0, v1] h Q := w_const2 dX9_planned_21 k_49 k8_49
theorem s158_23 (ha : tg a = 100) (h0 : 0 ≤ x) (h1 : x < ln S a) : wp 158 23 [l0, l1, l2] [.inl x, .inr a, v0] (hp S D) Q ↔ wp 158 24 [l0, l1, l2] [.inl (rd S D a x.toNat), v0] (hp S D) Q := w_iald dX9_planned_23 ha h0 h1
theorem s158_24  : wp 158 24 [l0, l1, l2] [.inl z, .inl x] h Q ↔ if x < z then wp 158 27 [l0, l1, l2] [] h Q else wp 158 43 [l0, l1, l2] [] h Q := w_cge dX9_planned_24 (by decide)
theorem s158_27 (h0 : a ≠ 0) : wp 158 27 [.inr a, l1, l2] [] h Q ↔ wp 158 28 [.inr a, l1, l2] [.inr a] h Q := wp_step dX9_planned_27 (fun _ => if_neg h0)
theorem s158_28 (ha : tg a = 8) : wp 158 28 [l0, l1, l2] [.inr a] (hp S D) Q ↔ wp 158 31 [l0, l1, l2] [.inr (a + 1)] (hp S D) Q := w_getR dX9_planned_28 (t := 8) (j := 0) (c := 2) (by decide +kernel) (by decide) rfl (ln_ok (by decide) (by decide)) ha
theorem s158_31  : wp 158 31 [l0, l1, l2] [v0] h Q ↔ wp 158 33 [l0, l1, l2] [.inl 50, v0] h Q := w_const2 dX9_planned_31 k_50 k8_50
theorem s158_33  : wp 158 33 [l0, l1, l2] [v0, v1] h Q ↔ wp 158 34 [l0, l1, l2] [.inl 3, v0, v1] h Q := w_const1 dX9_planned_33 k_3
theorem s158_34  : wp 158 34 [l0, .inl x, l2] [v0, v1, v2] h Q ↔ wp 158 35 [l0, .inl x, l2] [.inl x, v0, v1, v2] h Q := wp_step dX9_planned_34 (fun _ => rfl)
theorem s158_35  : wp 158 35 [l0, l1, l2] [.inl z, .inl x, v0, v1] h Q ↔ wp 158 36 [l0, l1, l2] [.inl (w32 (x * z)), v0, v1] h Q := wp_step dX9_planned_35 (fun _ => rfl)
theorem s158_36  : wp 158 36 [l0, l1, l2] [.inl z, .inl x, v0] h Q ↔ wp 158 37 [l0, l1, l2] [.inl (w32 (x + z)), v0] h Q := wp_step dX9_planned_36 (fun _ => rfl)
theorem s158_37  : wp 158 37 [l0, l1, .inl x] [v0, v1] h Q ↔ wp 158 38 [l0, l1, .inl x] [.inl x, v0, v1] h Q := wp_step dX9_planned_37 (fun _ => rfl)
theorem s158_38  : wp 158 38 [l0, l1, l2] [.inl z, .inl x, v0] h Q ↔ wp 158 39 [l0, l1, l2] [.inl (w32 (x + z)), v0] h Q := wp_step dX9_planned_38 (fun _ => rfl)
theorem s158_39 (ha : tg a = 100) (h0 : 0 ≤ x) (h1 : x < ln S a) : wp 158 39 [l0, l1, l2] [.inl x, .inr a] (hp S D) Q ↔ wp 158 40 [l0, l1, l2] [.inl (rd S D a x.toNat)] (hp S D) Q := w_iald dX9_planned_39 ha h0 h1
theorem s158_40  : wp 158 40 [l0, l1, l2] [v0] h Q ↔ wp 158 45 [l0, l1, l2] [v0] h Q := w_goto dX9_planned_40 (by decide)
theorem s158_43  : wp 158 43 [l0, l1, l2] [] h Q ↔ wp 158 45 [l0, l1, l2] [.inl (-5)] h Q := w_const2 dX9_planned_43 k_m5 k8_m5
theorem s158_45  : wp 158 45 [l0, l1, l2] [.inl x] h Q ↔ Q (some (.inl x)) h := w_reti dX9_planned_45 (e_ri (by decide +kernel))
theorem s159_0  : wp 159 0 [l0, .inl x, l2] [] h Q ↔ wp 159 1 [l0, .inl x, l2] [.inl x] h Q := wp_step dX9_event_0 (fun _ => rfl)
theorem s159_1  : wp 159 1 [l0, l1, l2] [.inl x] h Q ↔ if x < 0 then wp 159 13 [l0, l1, l2] [] h Q else wp 159 4 [l0, l1, l2] [] h Q := w_lt0 dX9_event_1 (by decide)
theorem s159_4  : wp 159 4 [l0, l1, .inl x] [] h Q ↔ wp 159 5 [l0, l1, .inl x] [.inl x] h Q := wp_step dX9_event_4 (fun _ => rfl)
theorem s159_5  : wp 159 5 [l0, l1, l2] [v0] h Q ↔ wp 159 6 [l0, l1, l2] [.inl 0, v0] h Q := w_const1 dX9_event_5 k_0
theorem s159_6  : wp 159 6 [l0, l1, l2] [v0, v1] h Q ↔ wp 159 7 [l0, l1, l2] [.inl 2, v0, v1] h Q := w_const1 dX9_event_6 k_2
theorem s159_7  : wp 159 7 [l0, l1, l2] [p2, p1, p0] h Q ↔ wp 99 0 [p0, p1, p2] [] h (kont 159 10 [l0, l1, l2] [] Q) := w_callS (y2 := 99) (kd := 0) (vs := [p0, p1, p2]) (st := []) dX9_event_7 (by decide +kernel) (by decide) rfl (by decide +kernel) (Nat.le_of_ble_eq_true rfl) (by simp)
theorem s159_10  : wp 159 10 [l0, l1, l2] [.inl x] h Q ↔ if x = 0 then wp 159 13 [l0, l1, l2] [] h Q else wp 159 16 [l0, l1, l2] [] h Q := w_ne0 dX9_event_10 (by decide)
theorem s159_13  : wp 159 13 [l0, l1, l2] [] h Q ↔ wp 159 15 [l0, l1, l2] [.inl (-2)] h Q := w_const2 dX9_event_13 k_m2 k8_m2
theorem s159_15  : wp 159 15 [l0, l1, l2] [.inl x] h Q ↔ Q (some (.inl x)) h := w_reti dX9_event_15 (e_ri (by decide +kernel))
theorem s159_16  : wp 159 16 [l0, .inl x, l2] [] h Q ↔ wp 159 17 [l0, .inl x, l2] [.inl x] h Q := wp_step dX9_event_16 (fun _ => rfl)
theorem s159_17 (h0 : a ≠ 0) : wp 159 17 [.inr a, l1, l2] [v0] h Q ↔ wp 159 18 [.inr a, l1, l2] [.inr a, v0] h Q := wp_step dX9_event_17 (fun _ => if_neg h0)
theorem s159_18 (ha : tg a = 8) : wp 159 18 [l0, l1, l2] [.inr a, v0] (hp S D) Q ↔ wp 159 21 [l0, l1, l2] [.inr (a + 1), v0] (hp S D) Q := w_getR dX9_event_18 (t := 8) (j := 0) (c := 2) (by decide +kernel) (by decide) rfl (ln_ok (by decide) (by decide)) ha
theorem s159_21  : wp 159 21 [l0, l1, l2] [v0, v1] h Q ↔ wp 159 23 [l0, l1, l2] [.inl 80, v0, v1] h Q := w_const2 dX9_event_21 k_80 k8_80
theorem s159_23 (ha : tg a = 100) (h0 : 0 ≤ x) (h1 : x < ln S a) : wp 159 23 [l0, l1, l2] [.inl x, .inr a, v0] (hp S D) Q ↔ wp 159 24 [l0, l1, l2] [.inl (rd S D a x.toNat), v0] (hp S D) Q := w_iald dX9_event_23 ha h0 h1
theorem s159_24  : wp 159 24 [l0, l1, l2] [.inl z, .inl x] h Q ↔ if x < z then wp 159 27 [l0, l1, l2] [] h Q else wp 159 53 [l0, l1, l2] [] h Q := w_cge dX9_event_24 (by decide)
theorem s159_27 (h0 : a ≠ 0) : wp 159 27 [.inr a, l1, l2] [] h Q ↔ wp 159 28 [.inr a, l1, l2] [.inr a] h Q := wp_step dX9_event_27 (fun _ => if_neg h0)
theorem s159_28 (ha : tg a = 8) : wp 159 28 [l0, l1, l2] [.inr a] (hp S D) Q ↔ wp 159 31 [l0, l1, l2] [.inr (a + 1)] (hp S D) Q := w_getR dX9_event_28 (t := 8) (j := 0) (c := 2) (by decide +kernel) (by decide) rfl (ln_ok (by decide) (by decide)) ha
theorem s159_31  : wp 159 31 [l0, l1, l2] [v0] h Q ↔ wp 159 33 [l0, l1, l2] [.inl 81, v0] h Q := w_const2 dX9_event_31 k_81 k8_81
theorem s159_33  : wp 159 33 [l0, l1, l2] [v0, v1] h Q ↔ wp 159 34 [l0, l1, l2] [.inl 3, v0, v1] h Q := w_const1 dX9_event_33 k_3
theorem s159_34 (h0 : a ≠ 0) : wp 159 34 [.inr a, l1, l2] [v0, v1, v2] h Q ↔ wp 159 35 [.inr a, l1, l2] [.inr a, v0, v1, v2] h Q := wp_step dX9_event_34 (fun _ => if_neg h0)
theorem s159_35 (ha : tg a = 8) : wp 159 35 [l0, l1, l2] [.inr a, v0, v1, v2] (hp S D) Q ↔ wp 159 38 [l0, l1, l2] [.inr (a + 1), v0, v1, v2] (hp S D) Q := w_getR dX9_event_35 (t := 8) (j := 0) (c := 2) (by decide +kernel) (by decide) rfl (ln_ok (by decide) (by decide)) ha
theorem s159_38  : wp 159 38 [l0, l1, l2] [v0, v1, v2, v3] h Q ↔ wp 159 40 [l0, l1, l2] [.inl 80, v0, v1, v2, v3] h Q := w_const2 dX9_event_38 k_80 k8_80
theorem s159_40 (ha : tg a = 100) (h0 : 0 ≤ x) (h1 : x < ln S a) : wp 159 40 [l0, l1, l2] [.inl x, .inr a, v0, v1, v2] (hp S D) Q ↔ wp 159 41 [l0, l1, l2] [.inl (rd S D a x.toNat), v0, v1, v2] (hp S D) Q := w_iald dX9_event_40 ha h0 h1
theorem s159_41  : wp 159 41 [l0, l1, l2] [v0, v1, v2, v3] h Q ↔ wp 159 42 [l0, l1, l2] [.inl 1, v0, v1, v2, v3] h Q := w_const1 dX9_event_41 k_1
theorem s159_42  : wp 159 42 [l0, l1, l2] [.inl z, .inl x, v0, v1, v2] h Q ↔ wp 159 43 [l0, l1, l2] [.inl (w32 (x - z)), v0, v1, v2] h Q := wp_step dX9_event_42 (fun _ => rfl)
theorem s159_43  : wp 159 43 [l0, .inl x, l2] [v0, v1, v2, v3] h Q ↔ wp 159 44 [l0, .inl x, l2] [.inl x, v0, v1, v2, v3] h Q := wp_step dX9_event_43 (fun _ => rfl)
theorem s159_44  : wp 159 44 [l0, l1, l2] [.inl z, .inl x, v0, v1, v2] h Q ↔ wp 159 45 [l0, l1, l2] [.inl (w32 (x - z)), v0, v1, v2] h Q := wp_step dX9_event_44 (fun _ => rfl)
theorem s159_45  : wp 159 45 [l0, l1, l2] [.inl z, .inl x, v0, v1] h Q ↔ wp 159 46 [l0, l1, l2] [.inl (w32 (x * z)), v0, v1] h Q := wp_step dX9_event_45 (fun _ => rfl)
theorem s159_46  : wp 159 46 [l0, l1, l2] [.inl z, .inl x, v0] h Q ↔ wp 159 47 [l0, l1, l2] [.inl (w32 (x + z)), v0] h Q := wp_step dX9_event_46 (fun _ => rfl)
theorem s159_47  : wp 159 47 [l0, l1, .inl x] [v0, v1] h Q ↔ wp 159 48 [l0, l1, .inl x] [.inl x, v0, v1] h Q := wp_step dX9_event_47 (fun _ => rfl)
theorem s159_48  : wp 159 48 [l0, l1, l2] [.inl z, .inl x, v0] h Q ↔ wp 159 49 [l0, l1, l2] [.inl (w32 (x + z)), v0] h Q := wp_step dX9_event_48 (fun _ => rfl)
theorem s159_49 (ha : tg a = 100) (h0 : 0 ≤ x) (h1 : x < ln S a) : wp 159 49 [l0, l1, l2] [.inl x, .inr a] (hp S D) Q ↔ wp 159 50 [l0, l1, l2] [.inl (rd S D a x.toNat)] (hp S D) Q := w_iald dX9_event_49 ha h0 h1
theorem s159_50  : wp 159 50 [l0, l1, l2] [v0] h Q ↔ wp 159 55 [l0, l1, l2] [v0] h Q := w_goto dX9_event_50 (by decide)
theorem s159_53  : wp 159 53 [l0, l1, l2] [] h Q ↔ wp 159 55 [l0, l1, l2] [.inl (-5)] h Q := w_const2 dX9_event_53 k_m5 k8_m5
theorem s159_55  : wp 159 55 [l0, l1, l2] [.inl x] h Q ↔ Q (some (.inl x)) h := w_reti dX9_event_55 (e_ri (by decide +kernel))
theorem s160_0  : wp 160 0 [l0, l1, l2, l3, l4] [] h Q ↔ wp 160 1 [l0, l1, l2, l3, l4] [.inl 0] h Q := w_const1 dX9_lamps_0 k_0
theorem s160_1  : wp 160 1 [l0, l1, l2, l3, l4] [.inl x] h Q ↔ wp 160 2 [l0, l1, .inl x, l3, l4] [] h Q := wp_step dX9_lamps_1 (fun _ => rfl)
theorem s160_2  : wp 160 2 [l0, l1, l2, l3, l4] [] h Q ↔ wp 160 3 [l0, l1, l2, l3, l4] [.inl 0] h Q := w_const1 dX9_lamps_2 k_0
theorem s160_3  : wp 160 3 [l0, l1, l2, l3, l4] [.inl x] h Q ↔ wp 160 4 [l0, l1, l2, .inl x, l4] [] h Q := wp_step dX9_lamps_3 (fun _ => rfl)
theorem s160_4  : wp 160 4 [l0, l1, l2, .inl x, l4] [] h Q ↔ wp 160 5 [l0, l1, l2, .inl x, l4] [.inl x] h Q := wp_step dX9_lamps_4 (fun _ => rfl)
theorem s160_5  : wp 160 5 [l0, l1, l2, l3, l4] [v0] h Q ↔ wp 160 7 [l0, l1, l2, l3, l4] [.inl 6, v0] h Q := w_const2 dX9_lamps_5 k_6 k8_6
theorem s160_7  : wp 160 7 [l0, l1, l2, l3, l4] [.inl z, .inl x] h Q ↔ if x < z then wp 160 10 [l0, l1, l2, l3, l4] [] h Q else wp 160 95 [l0, l1, l2, l3, l4] [] h Q := w_cge dX9_lamps_7 (by decide)
theorem s160_10 (h0 : a ≠ 0) : wp 160 10 [.inr a, l1, l2, l3, l4] [] h Q ↔ wp 160 11 [.inr a, l1, l2, l3, l4] [.inr a] h Q := wp_step dX9_lamps_10 (fun _ => if_neg h0)
theorem s160_11 (ha : tg a = 8) : wp 160 11 [l0, l1, l2, l3, l4] [.inr a] (hp S D) Q ↔ wp 160 14 [l0, l1, l2, l3, l4] [.inr (a + 1)] (hp S D) Q := w_getR dX9_lamps_11 (t := 8) (j := 0) (c := 2) (by decide +kernel) (by decide) rfl (ln_ok (by decide) (by decide)) ha
theorem s160_14  : wp 160 14 [l0, l1, l2, .inl x, l4] [v0] h Q ↔ wp 160 15 [l0, l1, l2, .inl x, l4] [.inl x, v0] h Q := wp_step dX9_lamps_14 (fun _ => rfl)
theorem s160_15  : wp 160 15 [l0, l1, l2, l3, l4] [p1, p0] h Q ↔ wp 109 0 [p0, p1] [] h (kont 160 18 [l0, l1, l2, l3, l4] [] Q) := w_callS (y2 := 109) (kd := 0) (vs := [p0, p1]) (st := []) dX9_lamps_15 (by decide +kernel) (by decide) rfl (by decide +kernel) (Nat.le_of_ble_eq_true rfl) (by simp)
theorem s160_18  : wp 160 18 [l0, l1, l2, l3, l4] [.inl x] h Q ↔ if x = 0 then wp 160 73 [l0, l1, l2, l3, l4] [] h Q else wp 160 21 [l0, l1, l2, l3, l4] [] h Q := w_eq0 dX9_lamps_18 (by decide)
theorem s160_21  : wp 160 21 [l0, .inl x, l2, l3, l4] [] h Q ↔ wp 160 22 [l0, .inl x, l2, l3, l4] [.inl x] h Q := wp_step dX9_lamps_21 (fun _ => rfl)
theorem s160_22  : wp 160 22 [l0, l1, l2, l3, l4] [v0] h Q ↔ wp 160 23 [l0, l1, l2, l3, l4] [.inl 1, v0] h Q := w_const1 dX9_lamps_22 k_1
theorem s160_23  : wp 160 23 [l0, l1, l2, l3, l4] [.inl z, .inl x] h Q ↔ if x = z then wp 160 69 [l0, l1, l2, l3, l4] [] h Q else wp 160 26 [l0, l1, l2, l3, l4] [] h Q := w_ceq dX9_lamps_23 (by decide)
theorem s160_26  : wp 160 26 [l0, .inl x, l2, l3, l4] [] h Q ↔ wp 160 27 [l0, .inl x, l2, l3, l4] [.inl x] h Q := wp_step dX9_lamps_26 (fun _ => rfl)
theorem s160_27  : wp 160 27 [l0, l1, l2, l3, l4] [v0] h Q ↔ wp 160 28 [l0, l1, l2, l3, l4] [.inl 2, v0] h Q := w_const1 dX9_lamps_27 k_2
theorem s160_28  : wp 160 28 [l0, l1, l2, l3, l4] [.inl z, .inl x] h Q ↔ if x = z then wp 160 31 [l0, l1, l2, l3, l4] [] h Q else wp 160 45 [l0, l1, l2, l3, l4] [] h Q := w_cne dX9_lamps_28 (by decide)
theorem s160_31 (h0 : a ≠ 0) : wp 160 31 [.inr a, l1, l2, l3, l4] [] h Q ↔ wp 160 32 [.inr a, l1, l2, l3, l4] [.inr a] h Q := wp_step dX9_lamps_31 (fun _ => if_neg h0)
theorem s160_32 (ha : tg a = 8) : wp 160 32 [l0, l1, l2, l3, l4] [.inr a] (hp S D) Q ↔ wp 160 35 [l0, l1, l2, l3, l4] [.inr (a + 1)] (hp S D) Q := w_getR dX9_lamps_32 (t := 8) (j := 0) (c := 2) (by decide +kernel) (by decide) rfl (ln_ok (by decide) (by decide)) ha
theorem s160_35  : wp 160 35 [l0, l1, l2, .inl x, l4] [v0] h Q ↔ wp 160 36 [l0, l1, l2, .inl x, l4] [.inl x, v0] h Q := wp_step dX9_lamps_35 (fun _ => rfl)
theorem s160_36  : wp 160 36 [l0, l1, l2, l3, l4] [p1, p0] h Q ↔ wp 114 0 [p0, p1] [] h (kont 160 39 [l0, l1, l2, l3, l4] [] Q) := w_callS (y2 := 114) (kd := 0) (vs := [p0, p1]) (st := []) dX9_lamps_36 (by decide +kernel) (by decide) rfl (by decide +kernel) (Nat.le_of_ble_eq_true rfl) (by simp)
theorem s160_39  : wp 160 39 [l0, l1, l2, l3, l4] [.inl x] h Q ↔ if x = 0 then wp 160 73 [l0, l1, l2, l3, l4] [] h Q else wp 160 42 [l0, l1, l2, l3, l4] [] h Q := w_eq0 dX9_lamps_39 (by decide)
theorem s160_42  : wp 160 42 [l0, l1, l2, l3, l4] [] h Q ↔ wp 160 69 [l0, l1, l2, l3, l4] [] h Q := w_goto dX9_lamps_42 (by decide)
theorem s160_45 (h0 : a ≠ 0) : wp 160 45 [.inr a, l1, l2, l3, l4] [] h Q ↔ wp 160 46 [.inr a, l1, l2, l3, l4] [.inr a] h Q := wp_step dX9_lamps_45 (fun _ => if_neg h0)
theorem s160_46 (ha : tg a = 8) : wp 160 46 [l0, l1, l2, l3, l4] [.inr a] (hp S D) Q ↔ wp 160 49 [l0, l1, l2, l3, l4] [.inr (a + 1)] (hp S D) Q := w_getR dX9_lamps_46 (t := 8) (j := 0) (c := 2) (by decide +kernel) (by decide) rfl (ln_ok (by decide) (by decide)) ha
theorem s160_49  : wp 160 49 [l0, l1, l2, .inl x, l4] [v0] h Q ↔ wp 160 50 [l0, l1, l2, .inl x, l4] [.inl x, v0] h Q := wp_step dX9_lamps_49 (fun _ => rfl)
theorem s160_50  : wp 160 50 [l0, l1, l2, l3, l4] [v0, v1] h Q ↔ wp 160 51 [l0, l1, l2, l3, l4] [.inl 3, v0, v1] h Q := w_const1 dX9_lamps_50 k_3
theorem s160_51  : wp 160 51 [l0, l1, l2, l3, l4] [p2, p1, p0] h Q ↔ wp 106 0 [p0, p1, p2] [] h (kont 160 54 [l0, l1, l2, l3, l4] [] Q) := w_callS (y2 := 106) (kd := 0) (vs := [p0, p1, p2]) (st := []) dX9_lamps_51 (by decide +kernel) (by decide) rfl (by decide +kernel) (Nat.le_of_ble_eq_true rfl) (by simp)
theorem s160_54  : wp 160 54 [l0, l1, l2, l3, l4] [v0] h Q ↔ wp 160 55 [l0, l1, l2, l3, l4] [.inl 1, v0] h Q := w_const1 dX9_lamps_54 k_1
theorem s160_55  : wp 160 55 [l0, l1, l2, l3, l4] [.inl z, .inl x] h Q ↔ if x = z then wp 160 58 [l0, l1, l2, l3, l4] [] h Q else wp 160 73 [l0, l1, l2, l3, l4] [] h Q := w_cne dX9_lamps_55 (by decide)
theorem s160_58 (h0 : a ≠ 0) : wp 160 58 [.inr a, l1, l2, l3, l4] [] h Q ↔ wp 160 59 [.inr a, l1, l2, l3, l4] [.inr a] h Q := wp_step dX9_lamps_58 (fun _ => if_neg h0)
theorem s160_59 (ha : tg a = 8) : wp 160 59 [l0, l1, l2, l3, l4] [.inr a] (hp S D) Q ↔ wp 160 62 [l0, l1, l2, l3, l4] [.inr (a + 1)] (hp S D) Q := w_getR dX9_lamps_59 (t := 8) (j := 0) (c := 2) (by decide +kernel) (by decide) rfl (ln_ok (by decide) (by decide)) ha
theorem s160_62  : wp 160 62 [l0, l1, l2, .inl x, l4] [v0] h Q ↔ wp 160 63 [l0, l1, l2, .inl x, l4] [.inl x, v0] h Q := wp_step dX9_lamps_62 (fun _ => rfl)
theorem s160_63  : wp 160 63 [l0, l1, l2, l3, l4] [p1, p0] h Q ↔ wp 114 0 [p0, p1] [] h (kont 160 66 [l0, l1, l2, l3, l4] [] Q) := w_callS (y2 := 114) (kd := 0) (vs := [p0, p1]) (st := []) dX9_lamps_63 (by decide +kernel) (by decide) rfl (by decide +kernel) (Nat.le_of_ble_eq_true rfl) (by simp)
theorem s160_66  : wp 160 66 [l0, l1, l2, l3, l4] [.inl x] h Q ↔ if x = 0 then wp 160 69 [l0, l1, l2, l3, l4] [] h Q else wp 160 73 [l0, l1, l2, l3, l4] [] h Q := w_ne0 dX9_lamps_66 (by decide)
theorem s160_69  : wp 160 69 [l0, l1, l2, l3, l4] [] h Q ↔ wp 160 70 [l0, l1, l2, l3, l4] [.inl 1] h Q := w_const1 dX9_lamps_69 k_1
theorem s160_70  : wp 160 70 [l0, l1, l2, l3, l4] [v0] h Q ↔ wp 160 74 [l0, l1, l2, l3, l4] [v0] h Q := w_goto dX9_lamps_70 (by decide)
theorem s160_73  : wp 160 73 [l0, l1, l2, l3, l4] [] h Q ↔ wp 160 74 [l0, l1, l2, l3, l4] [.inl 0] h Q := w_const1 dX9_lamps_73 k_0
theorem s160_74  : wp 160 74 [l0, l1, l2, l3, l4] [.inl x] h Q ↔ wp 160 76 [l0, l1, l2, l3, .inl x] [] h Q := wp_step dX9_lamps_74 (fun _ => rfl)
theorem s160_76  : wp 160 76 [l0, l1, .inl x, l3, l4] [] h Q ↔ wp 160 77 [l0, l1, .inl x, l3, l4] [.inl x] h Q := wp_step dX9_lamps_76 (fun _ => rfl)
theorem s160_77  : wp 160 77 [l0, l1, l2, l3, .inl x] [v0] h Q ↔ wp 160 79 [l0, l1, l2, l3, .inl x] [.inl x, v0] h Q := wp_step dX9_lamps_77 (fun _ => rfl)
theorem s160_79  : wp 160 79 [l0, l1, l2, l3, l4] [.inl x, v0] h Q ↔ if x = 0 then wp 160 86 [l0, l1, l2, l3, l4] [v0] h Q else wp 160 82 [l0, l1, l2, l3, l4] [v0] h Q := w_eq0 dX9_lamps_79 (by decide)
theorem s160_82  : wp 160 82 [l0, l1, l2, l3, l4] [v0] h Q ↔ wp 160 83 [l0, l1, l2, l3, l4] [.inl 1, v0] h Q := w_const1 dX9_lamps_82 k_1
theorem s160_83  : wp 160 83 [l0, l1, l2, l3, l4] [v0, v1] h Q ↔ wp 160 87 [l0, l1, l2, l3, l4] [v0, v1] h Q := w_goto dX9_lamps_83 (by decide)
theorem s160_86  : wp 160 86 [l0, l1, l2, l3, l4] [v0] h Q ↔ wp 160 87 [l0, l1, l2, l3, l4] [.inl 0, v0] h Q := w_const1 dX9_lamps_86 k_0
theorem s160_87  : wp 160 87 [l0, l1, l2, l3, l4] [.inl z, .inl x] h Q ↔ wp 160 88 [l0, l1, l2, l3, l4] [.inl (w32 (x + z))] h Q := wp_step dX9_lamps_87 (fun _ => rfl)
theorem s160_88  : wp 160 88 [l0, l1, l2, l3, l4] [.inl x] h Q ↔ wp 160 89 [l0, l1, .inl x, l3, l4] [] h Q := wp_step dX9_lamps_88 (fun _ => rfl)
theorem s160_89  : wp 160 89 [l0, l1, l2, .inl x, l4] [] h Q ↔ wp 160 92 [l0, l1, l2, .inl (w32 (x + 1)), l4] [] h Q := wp_step dX9_lamps_89 (fun _ => rfl)
theorem s160_92  : wp 160 92 [l0, l1, l2, l3, l4] [] h Q ↔ wp 160 4 [l0, l1, l2, l3, l4] [] h Q := w_goto dX9_lamps_92 (by decide)
theorem s160_95  : wp 160 95 [l0, l1, .inl x, l3, l4] [] h Q ↔ wp 160 96 [l0, l1, .inl x, l3, l4] [.inl x] h Q := wp_step dX9_lamps_95 (fun _ => rfl)
theorem s160_96  : wp 160 96 [l0, l1, l2, l3, l4] [.inl x] h Q ↔ Q (some (.inl x)) h := w_reti dX9_lamps_96 (e_ri (by decide +kernel))
theorem s161_0  : wp 161 0 [l0, .inl x] [] h Q ↔ wp 161 1 [l0, .inl x] [.inl x] h Q := wp_step dX9_count_0 (fun _ => rfl)
theorem s161_1  : wp 161 1 [l0, l1] [.inl x] h Q ↔ if x = 0 then wp 161 72 [l0, l1] [] h Q else if x = 1 then wp 161 79 [l0, l1] [] h Q else if x = 2 then wp 161 79 [l0, l1] [] h Q else if x = 3 then wp 161 79 [l0, l1] [] h Q else if x = 4 then wp 161 85 [l0, l1] [] h Q else if x = 5 then wp 161 85 [l0, l1] [] h Q else if x = 6 then wp 161 85 [l0, l1] [] h Q else if x = 7 then wp 161 97 [l0, l1] [] h Q else if x = 8 then wp 161 105 [l0, l1] [] h Q else if x = 9 then wp 161 113 [l0, l1] [] h Q else if x = 10 then wp 161 121 [l0, l1] [] h Q else if x = 11 then wp 161 129 [l0, l1] [] h Q else if x = 12 then wp 161 137 [l0, l1] [] h Q else if x = 13 then wp 161 142 [l0, l1] [] h Q else wp 161 147 [l0, l1] [] h Q := by
  have T := w_table (y := 161) (ls := [l0, l1]) (st := []) (h := h) (Q := Q) (x := x) (fun i => ([72, 79, 79, 79, 85, 85, 85, 97, 105, 113, 121, 129, 137, 142] : List Nat).getD i 0) dX9_count_1 147 (by decide) (by
    intro i hi
    rcases (show i = 0 ∨ i = 1 ∨ i = 2 ∨ i = 3 ∨ i = 4 ∨ i = 5 ∨ i = 6 ∨ i = 7 ∨ i = 8 ∨ i = 9 ∨ i = 10 ∨ i = 11 ∨ i = 12 ∨ i = 13 by omega) with rfl | rfl | rfl | rfl | rfl | rfl | rfl | rfl | rfl | rfl | rfl | rfl | rfl | rfl <;> exact ⟨_, rfl, by decide⟩)
  rw [T]
  by_cases hc : x < 0 ∨ 13 < x
  · rw [if_pos hc]
    rw [if_neg (show ¬ x = 0 by omega), if_neg (show ¬ x = 1 by omega), if_neg (show ¬ x = 2 by omega), if_neg (show ¬ x = 3 by omega), if_neg (show ¬ x = 4 by omega), if_neg (show ¬ x = 5 by omega), if_neg (show ¬ x = 6 by omega), if_neg (show ¬ x = 7 by omega), if_neg (show ¬ x = 8 by omega), if_neg (show ¬ x = 9 by omega), if_neg (show ¬ x = 10 by omega), if_neg (show ¬ x = 11 by omega), if_neg (show ¬ x = 12 by omega), if_neg (show ¬ x = 13 by omega)]
  · rw [if_neg hc]
    rcases (show x = 0 ∨ x = 1 ∨ x = 2 ∨ x = 3 ∨ x = 4 ∨ x = 5 ∨ x = 6 ∨ x = 7 ∨ x = 8 ∨ x = 9 ∨ x = 10 ∨ x = 11 ∨ x = 12 ∨ x = 13 by omega) with rfl | rfl | rfl | rfl | rfl | rfl | rfl | rfl | rfl | rfl | rfl | rfl | rfl | rfl <;> simp
theorem s161_72 (h0 : a ≠ 0) : wp 161 72 [.inr a, l1] [] h Q ↔ wp 161 73 [.inr a, l1] [.inr a] h Q := wp_step dX9_count_72 (fun _ => if_neg h0)
theorem s161_73 (ha : tg a = 8) : wp 161 73 [l0, l1] [.inr a] (hp S D) Q ↔ wp 161 76 [l0, l1] [.inr (a + 1)] (hp S D) Q := w_getR dX9_count_73 (t := 8) (j := 0) (c := 2) (by decide +kernel) (by decide) rfl (ln_ok (by decide) (by decide)) ha
theorem s161_76  : wp 161 76 [l0, l1] [v0] h Q ↔ wp 161 77 [l0, l1] [.inl 0, v0] h Q := w_const1 dX9_count_76 k_0
theorem s161_77 (ha : tg a = 100) (h0 : 0 ≤ x) (h1 : x < ln S a) : wp 161 77 [l0, l1] [.inl x, .inr a] (hp S D) Q ↔ wp 161 78 [l0, l1] [.inl (rd S D a x.toNat)] (hp S D) Q := w_iald dX9_count_77 ha h0 h1
theorem s161_78  : wp 161 78 [l0, l1] [.inl x] h Q ↔ Q (some (.inl x)) h := w_reti dX9_count_78 (e_ri (by decide +kernel))
theorem s161_79 (h0 : a ≠ 0) : wp 161 79 [.inr a, l1] [] h Q ↔ wp 161 80 [.inr a, l1] [.inr a] h Q := wp_step dX9_count_79 (fun _ => if_neg h0)
theorem s161_80  : wp 161 80 [l0, .inl x] [v0] h Q ↔ wp 161 81 [l0, .inl x] [.inl x, v0] h Q := wp_step dX9_count_80 (fun _ => rfl)
theorem s161_81 (ha : tg a = 8) : wp 161 81 [l0, l1] [p0, .inr a] (hp S D) Q ↔ wp 160 0 [.inr a, p0, .inr 0, .inr 0, .inr 0] [] (hp S D) (kont 161 84 [l0, l1] [] Q) := w_callV (y2 := 160) (vs := [p0]) (st := []) dX9_count_81 (by decide +kernel) rfl (by decide +kernel) (Nat.le_of_ble_eq_true rfl) (by simp) 8 rfl (by decide) ha
theorem s161_84  : wp 161 84 [l0, l1] [.inl x] h Q ↔ Q (some (.inl x)) h := w_reti dX9_count_84 (e_ri (by decide +kernel))
theorem s161_85 (h0 : a ≠ 0) : wp 161 85 [.inr a, l1] [] h Q ↔ wp 161 86 [.inr a, l1] [.inr a] h Q := wp_step dX9_count_85 (fun _ => if_neg h0)
theorem s161_86 (ha : tg a = 8) : wp 161 86 [l0, l1] [.inr a] (hp S D) Q ↔ wp 161 89 [l0, l1] [.inr (a + 1)] (hp S D) Q := w_getR dX9_count_86 (t := 8) (j := 0) (c := 2) (by decide +kernel) (by decide) rfl (ln_ok (by decide) (by decide)) ha
theorem s161_89  : wp 161 89 [l0, l1] [v0] h Q ↔ wp 161 91 [l0, l1] [.inl 41, v0] h Q := w_const2 dX9_count_89 k_41 k8_41
theorem s161_91  : wp 161 91 [l0, .inl x] [v0, v1] h Q ↔ wp 161 92 [l0, .inl x] [.inl x, v0, v1] h Q := wp_step dX9_count_91 (fun _ => rfl)
theorem s161_92  : wp 161 92 [l0, l1] [.inl z, .inl x, v0] h Q ↔ wp 161 93 [l0, l1] [.inl (w32 (x + z)), v0] h Q := wp_step dX9_count_92 (fun _ => rfl)
theorem s161_93  : wp 161 93 [l0, l1] [v0, v1] h Q ↔ wp 161 94 [l0, l1] [.inl 4, v0, v1] h Q := w_const1 dX9_count_93 k_4
theorem s161_94  : wp 161 94 [l0, l1] [.inl z, .inl x, v0] h Q ↔ wp 161 95 [l0, l1] [.inl (w32 (x - z)), v0] h Q := wp_step dX9_count_94 (fun _ => rfl)
theorem s161_95 (ha : tg a = 100) (h0 : 0 ≤ x) (h1 : x < ln S a) : wp 161 95 [l0, l1] [.inl x, .inr a] (hp S D) Q ↔ wp 161 96 [l0, l1] [.inl (rd S D a x.toNat)] (hp S D) Q := w_iald dX9_count_95 ha h0 h1
theorem s161_96  : wp 161 96 [l0, l1] [.inl x] h Q ↔ Q (some (.inl x)) h := w_reti dX9_count_96 (e_ri (by decide +kernel))
theorem s161_97 (h0 : a ≠ 0) : wp 161 97 [.inr a, l1] [] h Q ↔ wp 161 98 [.inr a, l1] [.inr a] h Q := wp_step dX9_count_97 (fun _ => if_neg h0)
theorem s161_98 (ha : tg a = 8) : wp 161 98 [l0, l1] [.inr a] (hp S D) Q ↔ wp 161 101 [l0, l1] [.inr (a + 1)] (hp S D) Q := w_getR dX9_count_98 (t := 8) (j := 0) (c := 2) (by decide +kernel) (by decide) rfl (ln_ok (by decide) (by decide)) ha
theorem s161_101  : wp 161 101 [l0, l1] [v0] h Q ↔ wp 161 103 [l0, l1] [.inl 44, v0] h Q := w_const2 dX9_count_101 k_44 k8_44
theorem s161_103 (ha : tg a = 100) (h0 : 0 ≤ x) (h1 : x < ln S a) : wp 161 103 [l0, l1] [.inl x, .inr a] (hp S D) Q ↔ wp 161 104 [l0, l1] [.inl (rd S D a x.toNat)] (hp S D) Q := w_iald dX9_count_103 ha h0 h1
theorem s161_104  : wp 161 104 [l0, l1] [.inl x] h Q ↔ Q (some (.inl x)) h := w_reti dX9_count_104 (e_ri (by decide +kernel))
theorem s161_105 (h0 : a ≠ 0) : wp 161 105 [.inr a, l1] [] h Q ↔ wp 161 106 [.inr a, l1] [.inr a] h Q := wp_step dX9_count_105 (fun _ => if_neg h0)
theorem s161_106 (ha : tg a = 8) : wp 161 106 [l0, l1] [.inr a] (hp S D) Q ↔ wp 161 109 [l0, l1] [.inr (a + 1)] (hp S D) Q := w_getR dX9_count_106 (t := 8) (j := 0) (c := 2) (by decide +kernel) (by decide) rfl (ln_ok (by decide) (by decide)) ha
theorem s161_109  : wp 161 109 [l0, l1] [v0] h Q ↔ wp 161 111 [l0, l1] [.inl 46, v0] h Q := w_const2 dX9_count_109 k_46 k8_46
theorem s161_111 (ha : tg a = 100) (h0 : 0 ≤ x) (h1 : x < ln S a) : wp 161 111 [l0, l1] [.inl x, .inr a] (hp S D) Q ↔ wp 161 112 [l0, l1] [.inl (rd S D a x.toNat)] (hp S D) Q := w_iald dX9_count_111 ha h0 h1
theorem s161_112  : wp 161 112 [l0, l1] [.inl x] h Q ↔ Q (some (.inl x)) h := w_reti dX9_count_112 (e_ri (by decide +kernel))
theorem s161_113 (h0 : a ≠ 0) : wp 161 113 [.inr a, l1] [] h Q ↔ wp 161 114 [.inr a, l1] [.inr a] h Q := wp_step dX9_count_113 (fun _ => if_neg h0)
theorem s161_114 (ha : tg a = 8) : wp 161 114 [l0, l1] [.inr a] (hp S D) Q ↔ wp 161 117 [l0, l1] [.inr (a + 1)] (hp S D) Q := w_getR dX9_count_114 (t := 8) (j := 0) (c := 2) (by decide +kernel) (by decide) rfl (ln_ok (by decide) (by decide)) ha
theorem s161_117  : wp 161 117 [l0, l1] [v0] h Q ↔ wp 161 119 [l0, l1] [.inl 47, v0] h Q := w_const2 dX9_count_117 k_47 k8_47
theorem s161_119 (ha : tg a = 100) (h0 : 0 ≤ x) (h1 : x < ln S a) : wp 161 119 [l0, l1] [.inl x, .inr a] (hp S D) Q ↔ wp 161 120 [l0, l1] [.inl (rd S D a x.toNat)] (hp S D) Q := w_iald dX9_count_119 ha h0 h1
theorem s161_120  : wp 161 120 [l0, l1] [.inl x] h Q ↔ Q (some (.inl x)) h := w_reti dX9_count_120 (e_ri (by decide +kernel))
theorem s161_121 (h0 : a ≠ 0) : wp 161 121 [.inr a, l1] [] h Q ↔ wp 161 122 [.inr a, l1] [.inr a] h Q := wp_step dX9_count_121 (fun _ => if_neg h0)
theorem s161_122 (ha : tg a = 8) : wp 161 122 [l0, l1] [.inr a] (hp S D) Q ↔ wp 161 125 [l0, l1] [.inr (a + 1)] (hp S D) Q := w_getR dX9_count_122 (t := 8) (j := 0) (c := 2) (by decide +kernel) (by decide) rfl (ln_ok (by decide) (by decide)) ha
theorem s161_125  : wp 161 125 [l0, l1] [v0] h Q ↔ wp 161 127 [l0, l1] [.inl 48, v0] h Q := w_const2 dX9_count_125 k_48 k8_48
theorem s161_127 (ha : tg a = 100) (h0 : 0 ≤ x) (h1 : x < ln S a) : wp 161 127 [l0, l1] [.inl x, .inr a] (hp S D) Q ↔ wp 161 128 [l0, l1] [.inl (rd S D a x.toNat)] (hp S D) Q := w_iald dX9_count_127 ha h0 h1
theorem s161_128  : wp 161 128 [l0, l1] [.inl x] h Q ↔ Q (some (.inl x)) h := w_reti dX9_count_128 (e_ri (by decide +kernel))
theorem s161_129 (h0 : a ≠ 0) : wp 161 129 [.inr a, l1] [] h Q ↔ wp 161 130 [.inr a, l1] [.inr a] h Q := wp_step dX9_count_129 (fun _ => if_neg h0)
theorem s161_130 (ha : tg a = 8) : wp 161 130 [l0, l1] [.inr a] (hp S D) Q ↔ wp 161 133 [l0, l1] [.inr (a + 1)] (hp S D) Q := w_getR dX9_count_130 (t := 8) (j := 0) (c := 2) (by decide +kernel) (by decide) rfl (ln_ok (by decide) (by decide)) ha
theorem s161_133  : wp 161 133 [l0, l1] [v0] h Q ↔ wp 161 135 [l0, l1] [.inl 49, v0] h Q := w_const2 dX9_count_133 k_49 k8_49
theorem s161_135 (ha : tg a = 100) (h0 : 0 ≤ x) (h1 : x < ln S a) : wp 161 135 [l0, l1] [.inl x, .inr a] (hp S D) Q ↔ wp 161 136 [l0, l1] [.inl (rd S D a x.toNat)] (hp S D) Q := w_iald dX9_count_135 ha h0 h1
theorem s161_136  : wp 161 136 [l0, l1] [.inl x] h Q ↔ Q (some (.inl x)) h := w_reti dX9_count_136 (e_ri (by decide +kernel))
theorem s161_137 (h0 : a ≠ 0) : wp 161 137 [.inr a, l1] [] h Q ↔ wp 161 138 [.inr a, l1] [.inr a] h Q := wp_step dX9_count_137 (fun _ => if_neg h0)
theorem s161_138 (ha : tg a = 8) : wp 161 138 [l0, l1] [.inr a] (hp S D) Q ↔ wp 161 141 [l0, l1] [.inl (D a 3)] (hp S D) Q := w_getI dX9_count_138 (t := 8) (j := 3) (c := 0) (by decide +kernel) (by decide) rfl (ln_ok (by decide) (by decide)) ha
theorem s161_141  : wp 161 141 [l0, l1] [.inl x] h Q ↔ Q (some (.inl x)) h := w_reti dX9_count_141 (e_ri (by decide +kernel))
theorem s161_142 (h0 : a ≠ 0) : wp 161 142 [.inr a, l1] [] h Q ↔ wp 161 143 [.inr a, l1] [.inr a] h Q := wp_step dX9_count_142 (fun _ => if_neg h0)
theorem s161_143 (ha : tg a = 8) : wp 161 143 [l0, l1] [.inr a] (hp S D) Q ↔ wp 161 146 [l0, l1] [.inl (D a 7)] (hp S D) Q := w_getI dX9_count_143 (t := 8) (j := 7) (c := 0) (by decide +kernel) (by decide) rfl (ln_ok (by decide) (by decide)) ha
theorem s161_146  : wp 161 146 [l0, l1] [.inl x] h Q ↔ Q (some (.inl x)) h := w_reti dX9_count_146 (e_ri (by decide +kernel))
theorem s161_147  : wp 161 147 [l0, l1] [] h Q ↔ wp 161 149 [l0, l1] [.inl (-2)] h Q := w_const2 dX9_count_147 k_m2 k8_m2
theorem s161_149  : wp 161 149 [l0, l1] [.inl x] h Q ↔ Q (some (.inl x)) h := w_reti dX9_count_149 (e_ri (by decide +kernel))
theorem s162_0  : wp 162 0 [l0, .inl x] [] h Q ↔ wp 162 1 [l0, .inl x] [.inl x] h Q := wp_step dX9_setting_0 (fun _ => rfl)
theorem s162_1  : wp 162 1 [l0, l1] [v0] h Q ↔ wp 162 2 [l0, l1] [.inl 0, v0] h Q := w_const1 dX9_setting_1 k_0
theorem s162_2  : wp 162 2 [l0, l1] [v0, v1] h Q ↔ wp 162 3 [l0, l1] [.inl 3, v0, v1] h Q := w_const1 dX9_setting_2 k_3
theorem s162_3  : wp 162 3 [l0, l1] [p2, p1, p0] h Q ↔ wp 99 0 [p0, p1, p2] [] h (kont 162 6 [l0, l1] [] Q) := w_callS (y2 := 99) (kd := 0) (vs := [p0, p1, p2]) (st := []) dX9_setting_3 (by decide +kernel) (by decide) rfl (by decide +kernel) (Nat.le_of_ble_eq_true rfl) (by simp)
theorem s162_6  : wp 162 6 [l0, l1] [.inl x] h Q ↔ if x = 0 then wp 162 20 [l0, l1] [] h Q else wp 162 9 [l0, l1] [] h Q := w_eq0 dX9_setting_6 (by decide)
theorem s162_9 (h0 : a ≠ 0) : wp 162 9 [.inr a, l1] [] h Q ↔ wp 162 10 [.inr a, l1] [.inr a] h Q := wp_step dX9_setting_9 (fun _ => if_neg h0)
theorem s162_10 (ha : tg a = 8) : wp 162 10 [l0, l1] [.inr a] (hp S D) Q ↔ wp 162 13 [l0, l1] [.inr (a + 1)] (hp S D) Q := w_getR dX9_setting_10 (t := 8) (j := 0) (c := 2) (by decide +kernel) (by decide) rfl (ln_ok (by decide) (by decide)) ha
theorem s162_13  : wp 162 13 [l0, l1] [v0] h Q ↔ wp 162 14 [l0, l1] [.inl 3, v0] h Q := w_const1 dX9_setting_13 k_3
theorem s162_14  : wp 162 14 [l0, .inl x] [v0, v1] h Q ↔ wp 162 15 [l0, .inl x] [.inl x, v0, v1] h Q := wp_step dX9_setting_14 (fun _ => rfl)
theorem s162_15  : wp 162 15 [l0, l1] [.inl z, .inl x, v0] h Q ↔ wp 162 16 [l0, l1] [.inl (w32 (x + z)), v0] h Q := wp_step dX9_setting_15 (fun _ => rfl)
theorem s162_16 (ha : tg a = 100) (h0 : 0 ≤ x) (h1 : x < ln S a) : wp 162 16 [l0, l1] [.inl x, .inr a] (hp S D) Q ↔ wp 162 17 [l0, l1] [.inl (rd S D a x.toNat)] (hp S D) Q := w_iald dX9_setting_16 ha h0 h1
theorem s162_17  : wp 162 17 [l0, l1] [v0] h Q ↔ wp 162 21 [l0, l1] [v0] h Q := w_goto dX9_setting_17 (by decide)
theorem s162_20  : wp 162 20 [l0, l1] [] h Q ↔ wp 162 21 [l0, l1] [.inl (-1)] h Q := w_const1 dX9_setting_20 k_m1
theorem s162_21  : wp 162 21 [l0, l1] [.inl x] h Q ↔ Q (some (.inl x)) h := w_reti dX9_setting_21 (e_ri (by decide +kernel))
theorem s163_0  : wp 163 0 [.inl x, l1, l2] [] h Q ↔ wp 163 1 [.inl x, l1, l2] [.inl x] h Q := wp_step dJ9_floorMod_7cf53_0 (fun _ => rfl)
theorem s163_1  : wp 163 1 [l0, .inl x, l2] [v0] h Q ↔ wp 163 2 [l0, .inl x, l2] [.inl x, v0] h Q := wp_step dJ9_floorMod_7cf53_1 (fun _ => rfl)
theorem s163_2 (h0 : z ≠ 0) : wp 163 2 [l0, l1, l2] [.inl z, .inl x] h Q ↔ wp 163 3 [l0, l1, l2] [.inl (w32 (x.tmod z))] h Q := w_rem dJ9_floorMod_7cf53_2 h0
theorem s163_3  : wp 163 3 [l0, l1, l2] [.inl x] h Q ↔ wp 163 4 [l0, l1, .inl x] [] h Q := wp_step dJ9_floorMod_7cf53_3 (fun _ => rfl)
theorem s163_4  : wp 163 4 [.inl x, l1, l2] [] h Q ↔ wp 163 5 [.inl x, l1, l2] [.inl x] h Q := wp_step dJ9_floorMod_7cf53_4 (fun _ => rfl)
theorem s163_5  : wp 163 5 [l0, .inl x, l2] [v0] h Q ↔ wp 163 6 [l0, .inl x, l2] [.inl x, v0] h Q := wp_step dJ9_floorMod_7cf53_5 (fun _ => rfl)
theorem s163_6  : wp 163 6 [l0, l1, l2] [.inl z, .inl x] h Q ↔ wp 163 7 [l0, l1, l2] [.inl (Int32.ofInt x ^^^ Int32.ofInt z).toInt] h Q := wp_step dJ9_floorMod_7cf53_6 (fun _ => rfl)
theorem s163_7  : wp 163 7 [l0, l1, l2] [.inl x] h Q ↔ if x < 0 then wp 163 10 [l0, l1, l2] [] h Q else wp 163 18 [l0, l1, l2] [] h Q := w_ge0 dJ9_floorMod_7cf53_7 (by decide)
theorem s163_10  : wp 163 10 [l0, l1, .inl x] [] h Q ↔ wp 163 11 [l0, l1, .inl x] [.inl x] h Q := wp_step dJ9_floorMod_7cf53_10 (fun _ => rfl)
theorem s163_11  : wp 163 11 [l0, l1, l2] [.inl x] h Q ↔ if x = 0 then wp 163 18 [l0, l1, l2] [] h Q else wp 163 14 [l0, l1, l2] [] h Q := w_eq0 dJ9_floorMod_7cf53_11 (by decide)
theorem s163_14  : wp 163 14 [l0, l1, .inl x] [] h Q ↔ wp 163 15 [l0, l1, .inl x] [.inl x] h Q := wp_step dJ9_floorMod_7cf53_14 (fun _ => rfl)
theorem s163_15  : wp 163 15 [l0, .inl x, l2] [v0] h Q ↔ wp 163 16 [l0, .inl x, l2] [.inl x, v0] h Q := wp_step dJ9_floorMod_7cf53_15 (fun _ => rfl)
theorem s163_16  : wp 163 16 [l0, l1, l2] [.inl z, .inl x] h Q ↔ wp 163 17 [l0, l1, l2] [.inl (w32 (x + z))] h Q := wp_step dJ9_floorMod_7cf53_16 (fun _ => rfl)
theorem s163_17  : wp 163 17 [l0, l1, l2] [.inl x] h Q ↔ Q (some (.inl x)) h := w_reti dJ9_floorMod_7cf53_17 (e_ri (by decide +kernel))
theorem s163_18  : wp 163 18 [l0, l1, .inl x] [] h Q ↔ wp 163 19 [l0, l1, .inl x] [.inl x] h Q := wp_step dJ9_floorMod_7cf53_18 (fun _ => rfl)
theorem s163_19  : wp 163 19 [l0, l1, l2] [.inl x] h Q ↔ Q (some (.inl x)) h := w_reti dJ9_floorMod_7cf53_19 (e_ri (by decide +kernel))
theorem s164_0  : wp 164 0 [.inl x, l1] [] h Q ↔ wp 164 1 [.inl x, l1] [.inl x] h Q := wp_step dJ9_max_7cf53_0 (fun _ => rfl)
theorem s164_1  : wp 164 1 [l0, .inl x] [v0] h Q ↔ wp 164 2 [l0, .inl x] [.inl x, v0] h Q := wp_step dJ9_max_7cf53_1 (fun _ => rfl)
theorem s164_2  : wp 164 2 [l0, l1] [.inl z, .inl x] h Q ↔ if x < z then wp 164 9 [l0, l1] [] h Q else wp 164 5 [l0, l1] [] h Q := w_clt dJ9_max_7cf53_2 (by decide)
theorem s164_5  : wp 164 5 [.inl x, l1] [] h Q ↔ wp 164 6 [.inl x, l1] [.inl x] h Q := wp_step dJ9_max_7cf53_5 (fun _ => rfl)
theorem s164_6  : wp 164 6 [l0, l1] [v0] h Q ↔ wp 164 10 [l0, l1] [v0] h Q := w_goto dJ9_max_7cf53_6 (by decide)
theorem s164_9  : wp 164 9 [l0, .inl x] [] h Q ↔ wp 164 10 [l0, .inl x] [.inl x] h Q := wp_step dJ9_max_7cf53_9 (fun _ => rfl)
theorem s164_10  : wp 164 10 [l0, l1] [.inl x] h Q ↔ Q (some (.inl x)) h := w_reti dJ9_max_7cf53_10 (e_ri (by decide +kernel))
theorem s165_0  : wp 165 0 [.inl x, l1] [] h Q ↔ wp 165 1 [.inl x, l1] [.inl x] h Q := wp_step dJ9_min_7cf53_0 (fun _ => rfl)
theorem s165_1  : wp 165 1 [l0, .inl x] [v0] h Q ↔ wp 165 2 [l0, .inl x] [.inl x, v0] h Q := wp_step dJ9_min_7cf53_1 (fun _ => rfl)
theorem s165_2  : wp 165 2 [l0, l1] [.inl z, .inl x] h Q ↔ if z < x then wp 165 9 [l0, l1] [] h Q else wp 165 5 [l0, l1] [] h Q := w_cgt dJ9_min_7cf53_2 (by decide)
theorem s165_5  : wp 165 5 [.inl x, l1] [] h Q ↔ wp 165 6 [.inl x, l1] [.inl x] h Q := wp_step dJ9_min_7cf53_5 (fun _ => rfl)
theorem s165_6  : wp 165 6 [l0, l1] [v0] h Q ↔ wp 165 10 [l0, l1] [v0] h Q := w_goto dJ9_min_7cf53_6 (by decide)
theorem s165_9  : wp 165 9 [l0, .inl x] [] h Q ↔ wp 165 10 [l0, .inl x] [.inl x] h Q := wp_step dJ9_min_7cf53_9 (fun _ => rfl)
theorem s165_10  : wp 165 10 [l0, l1] [.inl x] h Q ↔ Q (some (.inl x)) h := w_reti dJ9_min_7cf53_10 (e_ri (by decide +kernel))
end ESTEP
