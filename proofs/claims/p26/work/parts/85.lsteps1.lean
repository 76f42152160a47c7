section ELSTEP
variable {l0 l1 l2 l3 l4 l5 l6 l7 l8 l9 v0 v1 v2 v3 v4 v5 v6 v7 : eV} {a a0 a1 a2 a3 : Nat} {x z x0 x1 x2 x3 x4 x5 : Int} {w w0 w1 w2 w3 : Int64} {h G W : eH} {Q : Option eV → eH → Prop} {S : List Int} {D : eD} {L : List Int64}
theorem s107_0  : wp 107 0 [l0, l1, l2] [] (em G [] (hS S)) Q ↔ wp 107 3 [l0, l1, l2] [.inr (.inl (8 + G.length))] (em G [] (hS S ++ [(7, eDv.getD 7 [])])) Q := w_newo dL_nights_0 (by decide +kernel)
theorem s107_3  : wp 107 3 [l0, l1, l2] [.inr (.inl a0)] h Q ↔ wp 107 4 [l0, l1, l2] [.inr (.inl a0), .inr (.inl a0)] h Q := wp_step dL_nights_3 (fun _ => rfl)
theorem s107_4 (h8 : 8 ≤ a) : wp 107 4 [l0, l1, l2] [.inr (.inl a), v0] h Q ↔ wp 67 0 [.inr (.inl a)] [] h (kont 107 7 [l0, l1, l2] [v0] Q) := w_callI (y2 := 67) (vs := []) (st := [v0]) dL_nights_4 (by decide +kernel) rfl (by decide +kernel) (Nat.le_of_ble_eq_true rfl) (eSm_4 (by simp)) h8
theorem s107_7 (h0 : a ≠ 0) : wp 107 7 [l0, l1, l2] [.inr (.inl a)] h Q ↔ wp 107 8 [.inr (.inl a), l1, l2] [] h Q := wp_step dL_nights_7 (fun _ => (if_neg h0).trans rfl)
theorem s107_8 (h0 : a ≠ 0) : wp 107 8 [.inr (.inl a), l1, l2] [] h Q ↔ wp 107 9 [.inr (.inl a), l1, l2] [.inr (.inl a)] h Q := wp_step dL_nights_8 (fun _ => if_neg h0)
theorem s107_9  : wp 107 9 [l0, l1, l2] [.inr (.inl (8 + G.length))] (em G W (hp S D)) Q ↔ wp 79 0 [.inr (.inl (8 + G.length))] [] (em G W (hp S D)) (kont 107 12 [l0, l1, l2] [] Q) := w_callVh (y2 := 79) (vs := []) (st := []) dL_nights_9 (by decide +kernel) rfl (by decide +kernel) (Nat.le_of_ble_eq_true rfl) (eSm_4 (by simp)) 7 rfl em_o rfl (by omega)
theorem s107_12  : wp 107 12 [l0, l1, l2] [v0] h Q ↔ wp 107 14 [l0, l1, l2] [.inl (-5), v0] h Q := w_const2 dL_nights_12 k_m5 k8_m5
theorem s107_14  : wp 107 14 [l0, l1, l2] [.inl z, .inl x] h Q ↔ if x = z then wp 107 17 [l0, l1, l2] [] h Q else wp 107 238 [l0, l1, l2] [] h Q := w_cne dL_nights_14 (by decide)
theorem s107_17 (h0 : a ≠ 0) : wp 107 17 [.inr (.inl a), l1, l2] [] h Q ↔ wp 107 18 [.inr (.inl a), l1, l2] [.inr (.inl a)] h Q := wp_step dL_nights_17 (fun _ => if_neg h0)
theorem s107_18  : wp 107 18 [l0, l1, l2] [.inr (.inl (8 + G.length))] (em G W (hp S D)) Q ↔ wp 81 0 [.inr (.inl (8 + G.length))] [] (em G W (hp S D)) (kont 107 21 [l0, l1, l2] [] Q) := w_callVh (y2 := 81) (vs := []) (st := []) dL_nights_18 (by decide +kernel) rfl (by decide +kernel) (Nat.le_of_ble_eq_true rfl) (eSm_4 (by simp)) 7 rfl em_o rfl (by omega)
theorem s107_21  : wp 107 21 [l0, l1, l2] [v0] h Q ↔ wp 107 23 [l0, l1, l2] [.inl (-5), v0] h Q := w_const2 dL_nights_21 k_m5 k8_m5
theorem s107_23  : wp 107 23 [l0, l1, l2] [.inl z, .inl x] h Q ↔ if x = z then wp 107 26 [l0, l1, l2] [] h Q else wp 107 238 [l0, l1, l2] [] h Q := w_cne dL_nights_23 (by decide)
theorem s107_26 (h0 : a ≠ 0) : wp 107 26 [.inr (.inl a), l1, l2] [] h Q ↔ wp 107 27 [.inr (.inl a), l1, l2] [.inr (.inl a)] h Q := wp_step dL_nights_26 (fun _ => if_neg h0)
theorem s107_27  : wp 107 27 [l0, l1, l2] [v0] h Q ↔ wp 107 28 [l0, l1, l2] [.inl 4, v0] h Q := w_const1 dL_nights_27 k_4
theorem s107_28  : wp 107 28 [l0, l1, l2] [.inl x0, .inr (.inl (8 + G.length))] (em G W (hp S D)) Q ↔ wp 83 0 [.inr (.inl (8 + G.length)), .inl x0] [] (em G W (hp S D)) (kont 107 31 [l0, l1, l2] [] Q) := w_callVh (y2 := 83) (vs := [.inl x0]) (st := []) dL_nights_28 (by decide +kernel) rfl (by decide +kernel) (Nat.le_of_ble_eq_true rfl) (eSm_4 (by simp)) 7 rfl em_o rfl (by omega)
theorem s107_31  : wp 107 31 [l0, l1, l2] [v0] h Q ↔ wp 107 32 [l0, l1, l2] [.inl 1, v0] h Q := w_const1 dL_nights_31 k_1
theorem s107_32  : wp 107 32 [l0, l1, l2] [.inl z, .inl x] h Q ↔ if x = z then wp 107 35 [l0, l1, l2] [] h Q else wp 107 238 [l0, l1, l2] [] h Q := w_cne dL_nights_32 (by decide)
theorem s107_35 (h0 : a ≠ 0) : wp 107 35 [.inr (.inl a), l1, l2] [] h Q ↔ wp 107 36 [.inr (.inl a), l1, l2] [.inr (.inl a)] h Q := wp_step dL_nights_35 (fun _ => if_neg h0)
theorem s107_36  : wp 107 36 [l0, l1, l2] [v0] h Q ↔ wp 107 37 [l0, l1, l2] [.inl 5, v0] h Q := w_const1 dL_nights_36 k_5
theorem s107_37  : wp 107 37 [l0, l1, l2] [.inl x0, .inr (.inl (8 + G.length))] (em G W (hp S D)) Q ↔ wp 83 0 [.inr (.inl (8 + G.length)), .inl x0] [] (em G W (hp S D)) (kont 107 40 [l0, l1, l2] [] Q) := w_callVh (y2 := 83) (vs := [.inl x0]) (st := []) dL_nights_37 (by decide +kernel) rfl (by decide +kernel) (Nat.le_of_ble_eq_true rfl) (eSm_4 (by simp)) 7 rfl em_o rfl (by omega)
theorem s107_40  : wp 107 40 [l0, l1, l2] [v0] h Q ↔ wp 107 42 [l0, l1, l2] [.inl (-5), v0] h Q := w_const2 dL_nights_40 k_m5 k8_m5
theorem s107_42  : wp 107 42 [l0, l1, l2] [.inl z, .inl x] h Q ↔ if x = z then wp 107 45 [l0, l1, l2] [] h Q else wp 107 238 [l0, l1, l2] [] h Q := w_cne dL_nights_42 (by decide)
theorem s107_45 (h0 : a ≠ 0) : wp 107 45 [.inr (.inl a), l1, l2] [] h Q ↔ wp 107 46 [.inr (.inl a), l1, l2] [.inr (.inl a)] h Q := wp_step dL_nights_45 (fun _ => if_neg h0)
theorem s107_46  : wp 107 46 [l0, l1, l2] [.inr (.inl (8 + G.length))] (em G W (hp S D)) Q ↔ wp 85 0 [.inr (.inl (8 + G.length)), .inr (.inl 0)] [] (em G W (hp S D)) (kont 107 49 [l0, l1, l2] [] Q) := w_callVh (y2 := 85) (vs := []) (st := []) dL_nights_46 (by decide +kernel) rfl (by decide +kernel) (Nat.le_of_ble_eq_true rfl) (eSm_4 (by simp)) 7 rfl em_o rfl (by omega)
theorem s107_49  : wp 107 49 [l0, l1, l2] [.inl x] h Q ↔ if x = 0 then wp 107 52 [l0, l1, l2] [] h Q else wp 107 238 [l0, l1, l2] [] h Q := w_ne0 dL_nights_49 (by decide)
theorem s107_52 (h0 : a ≠ 0) : wp 107 52 [.inr (.inl a), l1, l2] [] h Q ↔ wp 107 53 [.inr (.inl a), l1, l2] [.inr (.inl a)] h Q := wp_step dL_nights_52 (fun _ => if_neg h0)
theorem s107_53  : wp 107 53 [l0, l1, l2] [v0] h Q ↔ wp 107 54 [l0, l1, l2] [.inl 0, v0] h Q := w_const1 dL_nights_53 k_0
theorem s107_54  : wp 107 54 [l0, l1, l2] [.inl x0, .inr (.inl (8 + G.length))] (em G W (hp S D)) Q ↔ wp 84 0 [.inr (.inl (8 + G.length)), .inl x0, .inr (.inl 0), .inr (.inl 0), .inr (.inl 0), .inr (.inl 0), .inr (.inl 0)] [] (em G W (hp S D)) (kont 107 57 [l0, l1, l2] [] Q) := w_callVh (y2 := 84) (vs := [.inl x0]) (st := []) dL_nights_54 (by decide +kernel) rfl (by decide +kernel) (Nat.le_of_ble_eq_true rfl) (eSm_4 (by simp)) 7 rfl em_o rfl (by omega)
theorem s107_57  : wp 107 57 [l0, l1, l2] [v0] h Q ↔ wp 107 59 [l0, l1, l2] [.inl (-4), v0] h Q := w_const2 dL_nights_57 k_m4 k8_m4
theorem s107_59  : wp 107 59 [l0, l1, l2] [.inl z, .inl x] h Q ↔ if x = z then wp 107 62 [l0, l1, l2] [] h Q else wp 107 238 [l0, l1, l2] [] h Q := w_cne dL_nights_59 (by decide)
theorem s107_62 (h0 : a ≠ 0) : wp 107 62 [.inr (.inl a), l1, l2] [] h Q ↔ wp 107 63 [.inr (.inl a), l1, l2] [.inr (.inl a)] h Q := wp_step dL_nights_62 (fun _ => if_neg h0)
theorem s107_63  : wp 107 63 [l0, l1, l2] [v0] h Q ↔ wp 107 64 [l0, l1, l2] [.inl 0, v0] h Q := w_const1 dL_nights_63 k_0
theorem s107_64  : wp 107 64 [l0, l1, l2] [.inl x0, .inr (.inl (8 + G.length))] (em G W (hp S D)) Q ↔ wp 71 0 [.inr (.inl (8 + G.length)), .inl x0, .inr (.inl 0), .inr (.inl 0)] [] (em G W (hp S D)) (kont 107 67 [l0, l1, l2] [] Q) := w_callVh (y2 := 71) (vs := [.inl x0]) (st := []) dL_nights_64 (by decide +kernel) rfl (by decide +kernel) (Nat.le_of_ble_eq_true rfl) (eSm_4 (by simp)) 7 rfl em_o rfl (by omega)
theorem s107_67  : wp 107 67 [l0, l1, l2] [v0] h Q ↔ wp 107 69 [l0, l1, l2] [.inl (-4), v0] h Q := w_const2 dL_nights_67 k_m4 k8_m4
theorem s107_69  : wp 107 69 [l0, l1, l2] [.inl z, .inl x] h Q ↔ if x = z then wp 107 72 [l0, l1, l2] [] h Q else wp 107 238 [l0, l1, l2] [] h Q := w_cne dL_nights_69 (by decide)
theorem s107_72 (h0 : a ≠ 0) : wp 107 72 [.inr (.inl a), l1, l2] [] h Q ↔ wp 107 73 [.inr (.inl a), l1, l2] [.inr (.inl a)] h Q := wp_step dL_nights_72 (fun _ => if_neg h0)
theorem s107_73  : wp 107 73 [l0, l1, l2] [v0] h Q ↔ wp 107 75 [l0, l1, l2] [.inl 12, v0] h Q := w_const2 dL_nights_73 k_12 k8_12
theorem s107_75  : wp 107 75 [l0, l1, l2] [.inl x0, .inr (.inl (8 + G.length))] (em G W (hp S D)) Q ↔ wp 76 0 [.inr (.inl (8 + G.length)), .inl x0, .inr (.inl 0), .inr (.inl 0)] [] (em G W (hp S D)) (kont 107 78 [l0, l1, l2] [] Q) := w_callVh (y2 := 76) (vs := [.inl x0]) (st := []) dL_nights_75 (by decide +kernel) rfl (by decide +kernel) (Nat.le_of_ble_eq_true rfl) (eSm_4 (by simp)) 7 rfl em_o rfl (by omega)
theorem s107_78  : wp 107 78 [l0, l1, l2] [v0] h Q ↔ wp 107 80 [l0, l1, l2] [.inl 12, v0] h Q := w_const2 dL_nights_78 k_12 k8_12
theorem s107_80  : wp 107 80 [l0, l1, l2] [.inl z, .inl x] h Q ↔ if x = z then wp 107 83 [l0, l1, l2] [] h Q else wp 107 238 [l0, l1, l2] [] h Q := w_cne dL_nights_80 (by decide)
theorem s107_83 (h0 : a ≠ 0) : wp 107 83 [.inr (.inl a), l1, l2] [] h Q ↔ wp 107 84 [.inr (.inl a), l1, l2] [.inr (.inl a)] h Q := wp_step dL_nights_83 (fun _ => if_neg h0)
theorem s107_84  : wp 107 84 [l0, l1, l2] [v0] h Q ↔ wp 107 85 [l0, l1, l2] [.inl 4, v0] h Q := w_const1 dL_nights_84 k_4
theorem s107_85  : wp 107 85 [l0, l1, l2] [.inl x0, .inr (.inl (8 + G.length))] (em G W (hp S D)) Q ↔ wp 83 0 [.inr (.inl (8 + G.length)), .inl x0] [] (em G W (hp S D)) (kont 107 88 [l0, l1, l2] [] Q) := w_callVh (y2 := 83) (vs := [.inl x0]) (st := []) dL_nights_85 (by decide +kernel) rfl (by decide +kernel) (Nat.le_of_ble_eq_true rfl) (eSm_4 (by simp)) 7 rfl em_o rfl (by omega)
theorem s107_88  : wp 107 88 [l0, l1, l2] [.inl x] h Q ↔ if x = 0 then wp 107 91 [l0, l1, l2] [] h Q else wp 107 238 [l0, l1, l2] [] h Q := w_ne0 dL_nights_88 (by decide)
theorem s107_91 (h0 : a ≠ 0) : wp 107 91 [.inr (.inl a), l1, l2] [] h Q ↔ wp 107 92 [.inr (.inl a), l1, l2] [.inr (.inl a)] h Q := wp_step dL_nights_91 (fun _ => if_neg h0)
theorem s107_92  : wp 107 92 [l0, l1, l2] [v0] h Q ↔ wp 107 93 [l0, l1, l2] [.inl 2, v0] h Q := w_const1 dL_nights_92 k_2
theorem s107_93  : wp 107 93 [l0, l1, l2] [v0, v1] h Q ↔ wp 107 94 [l0, l1, l2] [.inl 2, v0, v1] h Q := w_const1 dL_nights_93 k_2
theorem s107_94  : wp 107 94 [l0, l1, l2] [v0, v1, v2] h Q ↔ wp 107 96 [l0, l1, l2] [.inl 50, v0, v1, v2] h Q := w_const2 dL_nights_94 k_50 k8_50
theorem s107_96  : wp 107 96 [l0, l1, l2] [.inl x2, .inl x1, .inl x0, .inr (.inl (8 + G.length))] (em G W (hp S D)) Q ↔ wp 70 0 [.inr (.inl (8 + G.length)), .inl x0, .inl x1, .inl x2, .inr (.inl 0)] [] (em G W (hp S D)) (kont 107 99 [l0, l1, l2] [] Q) := w_callVh (y2 := 70) (vs := [.inl x0, .inl x1, .inl x2]) (st := []) dL_nights_96 (by decide +kernel) rfl (by decide +kernel) (Nat.le_of_ble_eq_true rfl) (eSm_4 (by simp)) 7 rfl em_o rfl (by omega)
theorem s107_99  : wp 107 99 [l0, l1, l2] [v0] h Q ↔ wp 107 101 [l0, l1, l2] [.inl 100, v0] h Q := w_const2 dL_nights_99 k_100 k8_100
theorem s107_101  : wp 107 101 [l0, l1, l2] [.inl z, .inl x] h Q ↔ if x = z then wp 107 104 [l0, l1, l2] [] h Q else wp 107 238 [l0, l1, l2] [] h Q := w_cne dL_nights_101 (by decide)
theorem s107_104 (h0 : a ≠ 0) : wp 107 104 [.inr (.inl a), l1, l2] [] h Q ↔ wp 107 105 [.inr (.inl a), l1, l2] [.inr (.inl a)] h Q := wp_step dL_nights_104 (fun _ => if_neg h0)
theorem s107_105  : wp 107 105 [l0, l1, l2] [v0] h Q ↔ wp 107 106 [l0, l1, l2] [.inl 2, v0] h Q := w_const1 dL_nights_105 k_2
theorem s107_106  : wp 107 106 [l0, l1, l2] [v0, v1] h Q ↔ wp 107 107 [l0, l1, l2] [.inl 0, v0, v1] h Q := w_const1 dL_nights_106 k_0
theorem s107_107  : wp 107 107 [l0, l1, l2] [v0, v1, v2] h Q ↔ wp 107 109 [l0, l1, l2] [.inl 100, v0, v1, v2] h Q := w_const2 dL_nights_107 k_100 k8_100
theorem s107_109  : wp 107 109 [l0, l1, l2] [.inl x2, .inl x1, .inl x0, .inr (.inl (8 + G.length))] (em G W (hp S D)) Q ↔ wp 70 0 [.inr (.inl (8 + G.length)), .inl x0, .inl x1, .inl x2, .inr (.inl 0)] [] (em G W (hp S D)) (kont 107 112 [l0, l1, l2] [] Q) := w_callVh (y2 := 70) (vs := [.inl x0, .inl x1, .inl x2]) (st := []) dL_nights_109 (by decide +kernel) rfl (by decide +kernel) (Nat.le_of_ble_eq_true rfl) (eSm_4 (by simp)) 7 rfl em_o rfl (by omega)
theorem s107_112  : wp 107 112 [l0, l1, l2] [v0] h Q ↔ wp 107 114 [l0, l1, l2] [.inl (-4), v0] h Q := w_const2 dL_nights_112 k_m4 k8_m4
theorem s107_114  : wp 107 114 [l0, l1, l2] [.inl z, .inl x] h Q ↔ if x = z then wp 107 117 [l0, l1, l2] [] h Q else wp 107 238 [l0, l1, l2] [] h Q := w_cne dL_nights_114 (by decide)
theorem s107_117 (h0 : a ≠ 0) : wp 107 117 [.inr (.inl a), l1, l2] [] h Q ↔ wp 107 118 [.inr (.inl a), l1, l2] [.inr (.inl a)] h Q := wp_step dL_nights_117 (fun _ => if_neg h0)
theorem s107_118  : wp 107 118 [l0, l1, l2] [v0] h Q ↔ wp 107 119 [l0, l1, l2] [.inl 2, v0] h Q := w_const1 dL_nights_118 k_2
theorem s107_119  : wp 107 119 [l0, l1, l2] [v0, v1] h Q ↔ wp 107 120 [l0, l1, l2] [.inl 4, v0, v1] h Q := w_const1 dL_nights_119 k_4
theorem s107_120  : wp 107 120 [l0, l1, l2] [.inl x1, .inl x0, .inr (.inl (8 + G.length))] (em G W (hp S D)) Q ↔ wp 82 0 [.inr (.inl (8 + G.length)), .inl x0, .inl x1, .inr (.inl 0)] [] (em G W (hp S D)) (kont 107 123 [l0, l1, l2] [] Q) := w_callVh (y2 := 82) (vs := [.inl x0, .inl x1]) (st := []) dL_nights_120 (by decide +kernel) rfl (by decide +kernel) (Nat.le_of_ble_eq_true rfl) (eSm_4 (by simp)) 7 rfl em_o rfl (by omega)
theorem s107_123  : wp 107 123 [l0, l1, l2] [v0] h Q ↔ wp 107 126 [l0, l1, l2] [.inl 700, v0] h Q := w_const3 dL_nights_123 k_700 k16_700
theorem s107_126  : wp 107 126 [l0, l1, l2] [.inl z, .inl x] h Q ↔ if x = z then wp 107 129 [l0, l1, l2] [] h Q else wp 107 238 [l0, l1, l2] [] h Q := w_cne dL_nights_126 (by decide)
theorem s107_129 (h0 : a ≠ 0) : wp 107 129 [.inr (.inl a), l1, l2] [] h Q ↔ wp 107 130 [.inr (.inl a), l1, l2] [.inr (.inl a)] h Q := wp_step dL_nights_129 (fun _ => if_neg h0)
theorem s107_130  : wp 107 130 [l0, l1, l2] [v0] h Q ↔ wp 107 131 [l0, l1, l2] [.inl 5, v0] h Q := w_const1 dL_nights_130 k_5
theorem s107_131  : wp 107 131 [l0, l1, l2] [.inl x0, .inr (.inl (8 + G.length))] (em G W (hp S D)) Q ↔ wp 83 0 [.inr (.inl (8 + G.length)), .inl x0] [] (em G W (hp S D)) (kont 107 134 [l0, l1, l2] [] Q) := w_callVh (y2 := 83) (vs := [.inl x0]) (st := []) dL_nights_131 (by decide +kernel) rfl (by decide +kernel) (Nat.le_of_ble_eq_true rfl) (eSm_4 (by simp)) 7 rfl em_o rfl (by omega)
theorem s107_134  : wp 107 134 [l0, l1, l2] [v0] h Q ↔ wp 107 135 [l0, l1, l2] [.inl 2, v0] h Q := w_const1 dL_nights_134 k_2
theorem s107_135  : wp 107 135 [l0, l1, l2] [.inl z, .inl x] h Q ↔ if x = z then wp 107 138 [l0, l1, l2] [] h Q else wp 107 238 [l0, l1, l2] [] h Q := w_cne dL_nights_135 (by decide)
theorem s107_138 (h0 : a ≠ 0) : wp 107 138 [.inr (.inl a), l1, l2] [] h Q ↔ wp 107 139 [.inr (.inl a), l1, l2] [.inr (.inl a)] h Q := wp_step dL_nights_138 (fun _ => if_neg h0)
theorem s107_139  : wp 107 139 [l0, l1, l2] [v0] h Q ↔ wp 107 140 [l0, l1, l2] [.inl 1, v0] h Q := w_const1 dL_nights_139 k_1
theorem s107_140  : wp 107 140 [l0, l1, l2] [.inl x0, .inr (.inl (8 + G.length))] (em G W (hp S D)) Q ↔ wp 76 0 [.inr (.inl (8 + G.length)), .inl x0, .inr (.inl 0), .inr (.inl 0)] [] (em G W (hp S D)) (kont 107 143 [l0, l1, l2] [] Q) := w_callVh (y2 := 76) (vs := [.inl x0]) (st := []) dL_nights_140 (by decide +kernel) rfl (by decide +kernel) (Nat.le_of_ble_eq_true rfl) (eSm_4 (by simp)) 7 rfl em_o rfl (by omega)
theorem s107_143  : wp 107 143 [l0, l1, l2] [.inl x] h Q ↔ if x = 0 then wp 107 146 [l0, l1, l2] [] h Q else wp 107 238 [l0, l1, l2] [] h Q := w_ne0 dL_nights_143 (by decide)
theorem s107_146 (h0 : a ≠ 0) : wp 107 146 [.inr (.inl a), l1, l2] [] h Q ↔ wp 107 147 [.inr (.inl a), l1, l2] [.inr (.inl a)] h Q := wp_step dL_nights_146 (fun _ => if_neg h0)
theorem s107_147  : wp 107 147 [l0, l1, l2] [v0] h Q ↔ wp 107 148 [l0, l1, l2] [.inl 0, v0] h Q := w_const1 dL_nights_147 k_0
theorem s107_148  : wp 107 148 [l0, l1, l2] [v0, v1] h Q ↔ wp 107 149 [l0, l1, l2] [.inl 3, v0, v1] h Q := w_const1 dL_nights_148 k_3
theorem s107_149  : wp 107 149 [l0, l1, l2] [v0, v1, v2] h Q ↔ wp 107 150 [l0, l1, l2] [.inl 2, v0, v1, v2] h Q := w_const1 dL_nights_149 k_2
theorem s107_150  : wp 107 150 [l0, l1, l2] [v0, v1, v2, v3] h Q ↔ wp 107 152 [l0, l1, l2] [.inl 12, v0, v1, v2, v3] h Q := w_const2 dL_nights_150 k_12 k8_12
theorem s107_152  : wp 107 152 [l0, l1, l2] [.inl x4, .inl x3, .inl x2, .inl x1, .inr (.inl a0)] h Q ↔ wp 106 0 [.inr (.inl a0), .inl x1, .inl x2, .inl x3, .inl x4] [] h (kont 107 155 [l0, l1, l2] [] Q) := w_callS (y2 := 106) (kd := 0) (vs := [.inr (.inl a0), .inl x1, .inl x2, .inl x3, .inl x4]) (st := []) dL_nights_152 (by decide +kernel) (by decide) rfl (by decide +kernel) (Nat.le_of_ble_eq_true rfl) (eSm_4 (by simp))
theorem s107_155  : wp 107 155 [l0, l1, l2] [.inl x] h Q ↔ if x = 0 then wp 107 238 [l0, l1, l2] [] h Q else wp 107 158 [l0, l1, l2] [] h Q := w_eq0 dL_nights_155 (by decide)
theorem s107_158 (h0 : a ≠ 0) : wp 107 158 [.inr (.inl a), l1, l2] [] h Q ↔ wp 107 159 [.inr (.inl a), l1, l2] [.inr (.inl a)] h Q := wp_step dL_nights_158 (fun _ => if_neg h0)
theorem s107_159  : wp 107 159 [l0, l1, l2] [v0] h Q ↔ wp 107 160 [l0, l1, l2] [.inl 1, v0] h Q := w_const1 dL_nights_159 k_1
theorem s107_160  : wp 107 160 [l0, l1, l2] [.inl x0, .inr (.inl (8 + G.length))] (em G W (hp S D)) Q ↔ wp 83 0 [.inr (.inl (8 + G.length)), .inl x0] [] (em G W (hp S D)) (kont 107 163 [l0, l1, l2] [] Q) := w_callVh (y2 := 83) (vs := [.inl x0]) (st := []) dL_nights_160 (by decide +kernel) rfl (by decide +kernel) (Nat.le_of_ble_eq_true rfl) (eSm_4 (by simp)) 7 rfl em_o rfl (by omega)
theorem s107_163  : wp 107 163 [l0, l1, l2] [v0] h Q ↔ wp 107 164 [l0, l1, l2] [.inl 2, v0] h Q := w_const1 dL_nights_163 k_2
theorem s107_164  : wp 107 164 [l0, l1, l2] [.inl z, .inl x] h Q ↔ if x = z then wp 107 167 [l0, l1, l2] [] h Q else wp 107 238 [l0, l1, l2] [] h Q := w_cne dL_nights_164 (by decide)
theorem s107_167 (h0 : a ≠ 0) : wp 107 167 [.inr (.inl a), l1, l2] [] h Q ↔ wp 107 168 [.inr (.inl a), l1, l2] [.inr (.inl a)] h Q := wp_step dL_nights_167 (fun _ => if_neg h0)
theorem s107_168  : wp 107 168 [l0, l1, l2] [v0] h Q ↔ wp 107 169 [l0, l1, l2] [.inl 2, v0] h Q := w_const1 dL_nights_168 k_2
theorem s107_169  : wp 107 169 [l0, l1, l2] [.inl x0, .inr (.inl (8 + G.length))] (em G W (hp S D)) Q ↔ wp 83 0 [.inr (.inl (8 + G.length)), .inl x0] [] (em G W (hp S D)) (kont 107 172 [l0, l1, l2] [] Q) := w_callVh (y2 := 83) (vs := [.inl x0]) (st := []) dL_nights_169 (by decide +kernel) rfl (by decide +kernel) (Nat.le_of_ble_eq_true rfl) (eSm_4 (by simp)) 7 rfl em_o rfl (by omega)
theorem s107_172  : wp 107 172 [l0, l1, l2] [v0] h Q ↔ wp 107 173 [l0, l1, l2] [.inl 4, v0] h Q := w_const1 dL_nights_172 k_4
theorem s107_173  : wp 107 173 [l0, l1, l2] [.inl z, .inl x] h Q ↔ if x = z then wp 107 176 [l0, l1, l2] [] h Q else wp 107 238 [l0, l1, l2] [] h Q := w_cne dL_nights_173 (by decide)
theorem s107_176 (h0 : a ≠ 0) : wp 107 176 [.inr (.inl a), l1, l2] [] h Q ↔ wp 107 177 [.inr (.inl a), l1, l2] [.inr (.inl a)] h Q := wp_step dL_nights_176 (fun _ => if_neg h0)
theorem s107_177  : wp 107 177 [l0, l1, l2] [v0] h Q ↔ wp 107 178 [l0, l1, l2] [.inl 3, v0] h Q := w_const1 dL_nights_177 k_3
theorem s107_178  : wp 107 178 [l0, l1, l2] [.inl x0, .inr (.inl (8 + G.length))] (em G W (hp S D)) Q ↔ wp 72 0 [.inr (.inl (8 + G.length)), .inl x0] [] (em G W (hp S D)) (kont 107 181 [l0, l1, l2] [] Q) := w_callVh (y2 := 72) (vs := [.inl x0]) (st := []) dL_nights_178 (by decide +kernel) rfl (by decide +kernel) (Nat.le_of_ble_eq_true rfl) (eSm_4 (by simp)) 7 rfl em_o rfl (by omega)
theorem s107_181  : wp 107 181 [l0, l1, l2] [v0] h Q ↔ wp 107 183 [l0, l1, l2] [.inl (-4), v0] h Q := w_const2 dL_nights_181 k_m4 k8_m4
theorem s107_183  : wp 107 183 [l0, l1, l2] [.inl z, .inl x] h Q ↔ if x = z then wp 107 186 [l0, l1, l2] [] h Q else wp 107 238 [l0, l1, l2] [] h Q := w_cne dL_nights_183 (by decide)
theorem s107_186 (h0 : a ≠ 0) : wp 107 186 [.inr (.inl a), l1, l2] [] h Q ↔ wp 107 187 [.inr (.inl a), l1, l2] [.inr (.inl a)] h Q := wp_step dL_nights_186 (fun _ => if_neg h0)
theorem s107_187  : wp 107 187 [l0, l1, l2] [v0] h Q ↔ wp 107 188 [l0, l1, l2] [.inl 3, v0] h Q := w_const1 dL_nights_187 k_3
theorem s107_188  : wp 107 188 [l0, l1, l2] [.inl x0, .inr (.inl (8 + G.length))] (em G W (hp S D)) Q ↔ wp 76 0 [.inr (.inl (8 + G.length)), .inl x0, .inr (.inl 0), .inr (.inl 0)] [] (em G W (hp S D)) (kont 107 191 [l0, l1, l2] [] Q) := w_callVh (y2 := 76) (vs := [.inl x0]) (st := []) dL_nights_188 (by decide +kernel) rfl (by decide +kernel) (Nat.le_of_ble_eq_true rfl) (eSm_4 (by simp)) 7 rfl em_o rfl (by omega)
theorem s107_191  : wp 107 191 [l0, l1, l2] [.inl x] h Q ↔ if x = 0 then wp 107 194 [l0, l1, l2] [] h Q else wp 107 238 [l0, l1, l2] [] h Q := w_ne0 dL_nights_191 (by decide)
theorem s107_194 (h0 : a ≠ 0) : wp 107 194 [.inr (.inl a), l1, l2] [] h Q ↔ wp 107 195 [.inr (.inl a), l1, l2] [.inr (.inl a)] h Q := wp_step dL_nights_194 (fun _ => if_neg h0)
theorem s107_195  : wp 107 195 [l0, l1, l2] [v0] h Q ↔ wp 107 196 [l0, l1, l2] [.inl 2, v0] h Q := w_const1 dL_nights_195 k_2
theorem s107_196  : wp 107 196 [l0, l1, l2] [.inl x0, .inr (.inl (8 + G.length))] (em G W (hp S D)) Q ↔ wp 83 0 [.inr (.inl (8 + G.length)), .inl x0] [] (em G W (hp S D)) (kont 107 199 [l0, l1, l2] [] Q) := w_callVh (y2 := 83) (vs := [.inl x0]) (st := []) dL_nights_196 (by decide +kernel) rfl (by decide +kernel) (Nat.le_of_ble_eq_true rfl) (eSm_4 (by simp)) 7 rfl em_o rfl (by omega)
theorem s107_199  : wp 107 199 [l0, l1, l2] [v0] h Q ↔ wp 107 200 [l0, l1, l2] [.inl 1, v0] h Q := w_const1 dL_nights_199 k_1
theorem s107_200  : wp 107 200 [l0, l1, l2] [.inl z, .inl x] h Q ↔ if x = z then wp 107 203 [l0, l1, l2] [] h Q else wp 107 238 [l0, l1, l2] [] h Q := w_cne dL_nights_200 (by decide)
theorem s107_203 (h0 : a ≠ 0) : wp 107 203 [.inr (.inl a), l1, l2] [] h Q ↔ wp 107 204 [.inr (.inl a), l1, l2] [.inr (.inl a)] h Q := wp_step dL_nights_203 (fun _ => if_neg h0)
theorem s107_204  : wp 107 204 [l0, l1, l2] [v0] h Q ↔ wp 107 205 [l0, l1, l2] [.inl 0, v0] h Q := w_const1 dL_nights_204 k_0
theorem s107_205  : wp 107 205 [l0, l1, l2] [.inl x0, .inr (.inl (8 + G.length))] (em G W (hp S D)) Q ↔ wp 83 0 [.inr (.inl (8 + G.length)), .inl x0] [] (em G W (hp S D)) (kont 107 208 [l0, l1, l2] [] Q) := w_callVh (y2 := 83) (vs := [.inl x0]) (st := []) dL_nights_205 (by decide +kernel) rfl (by decide +kernel) (Nat.le_of_ble_eq_true rfl) (eSm_4 (by simp)) 7 rfl em_o rfl (by omega)
theorem s107_208  : wp 107 208 [l0, l1, l2] [.inl x] h Q ↔ if x = 0 then wp 107 211 [l0, l1, l2] [] h Q else wp 107 238 [l0, l1, l2] [] h Q := w_ne0 dL_nights_208 (by decide)
theorem s107_211 (h0 : a ≠ 0) : wp 107 211 [.inr (.inl a), l1, l2] [] h Q ↔ wp 107 212 [.inr (.inl a), l1, l2] [.inr (.inl a)] h Q := wp_step dL_nights_211 (fun _ => if_neg h0)
theorem s107_212  : wp 107 212 [l0, l1, l2] [v0] h Q ↔ wp 107 213 [l0, l1, l2] [.inl 1, v0] h Q := w_const1 dL_nights_212 k_1
theorem s107_213  : wp 107 213 [l0, l1, l2] [.inl x0, .inr (.inl (8 + G.length))] (em G W (hp S D)) Q ↔ wp 76 0 [.inr (.inl (8 + G.length)), .inl x0, .inr (.inl 0), .inr (.inl 0)] [] (em G W (hp S D)) (kont 107 216 [l0, l1, l2] [] Q) := w_callVh (y2 := 76) (vs := [.inl x0]) (st := []) dL_nights_213 (by decide +kernel) rfl (by decide +kernel) (Nat.le_of_ble_eq_true rfl) (eSm_4 (by simp)) 7 rfl em_o rfl (by omega)
theorem s107_216  : wp 107 216 [l0, l1, l2] [.inl x] h Q ↔ if x = 0 then wp 107 219 [l0, l1, l2] [] h Q else wp 107 238 [l0, l1, l2] [] h Q := w_ne0 dL_nights_216 (by decide)
theorem s107_219 (h0 : a ≠ 0) : wp 107 219 [.inr (.inl a), l1, l2] [] h Q ↔ wp 107 220 [.inr (.inl a), l1, l2] [.inr (.inl a)] h Q := wp_step dL_nights_219 (fun _ => if_neg h0)
theorem s107_220  : wp 107 220 [l0, l1, l2] [v0] h Q ↔ wp 107 221 [l0, l1, l2] [.inl 0, v0] h Q := w_const1 dL_nights_220 k_0
theorem s107_221  : wp 107 221 [l0, l1, l2] [.inl x0, .inr (.inl (8 + G.length))] (em G W (hp S D)) Q ↔ wp 83 0 [.inr (.inl (8 + G.length)), .inl x0] [] (em G W (hp S D)) (kont 107 224 [l0, l1, l2] [] Q) := w_callVh (y2 := 83) (vs := [.inl x0]) (st := []) dL_nights_221 (by decide +kernel) rfl (by decide +kernel) (Nat.le_of_ble_eq_true rfl) (eSm_4 (by simp)) 7 rfl em_o rfl (by omega)
theorem s107_224  : wp 107 224 [l0, l1, l2] [v0] h Q ↔ wp 107 225 [l0, l1, l2] [.inl 2, v0] h Q := w_const1 dL_nights_224 k_2
theorem s107_225  : wp 107 225 [l0, l1, l2] [.inl z, .inl x] h Q ↔ if x = z then wp 107 228 [l0, l1, l2] [] h Q else wp 107 238 [l0, l1, l2] [] h Q := w_cne dL_nights_225 (by decide)
theorem s107_228 (h0 : a ≠ 0) : wp 107 228 [.inr (.inl a), l1, l2] [] h Q ↔ wp 107 229 [.inr (.inl a), l1, l2] [.inr (.inl a)] h Q := wp_step dL_nights_228 (fun _ => if_neg h0)
theorem s107_229  : wp 107 229 [l0, l1, l2] [v0] h Q ↔ wp 107 230 [l0, l1, l2] [.inl 1, v0] h Q := w_const1 dL_nights_229 k_1
theorem s107_230  : wp 107 230 [l0, l1, l2] [.inl x0, .inr (.inl (8 + G.length))] (em G W (hp S D)) Q ↔ wp 83 0 [.inr (.inl (8 + G.length)), .inl x0] [] (em G W (hp S D)) (kont 107 233 [l0, l1, l2] [] Q) := w_callVh (y2 := 83) (vs := [.inl x0]) (st := []) dL_nights_230 (by decide +kernel) rfl (by decide +kernel) (Nat.le_of_ble_eq_true rfl) (eSm_4 (by simp)) 7 rfl em_o rfl (by omega)
theorem s107_233  : wp 107 233 [l0, l1, l2] [v0] h Q ↔ wp 107 235 [l0, l1, l2] [.inl (-5), v0] h Q := w_const2 dL_nights_233 k_m5 k8_m5
theorem s107_235  : wp 107 235 [l0, l1, l2] [.inl z, .inl x] h Q ↔ if x = z then wp 107 240 [l0, l1, l2] [] h Q else wp 107 238 [l0, l1, l2] [] h Q := w_ceq dL_nights_235 (by decide)
theorem s107_238  : wp 107 238 [l0, l1, l2] [] h Q ↔ wp 107 239 [l0, l1, l2] [.inl 0] h Q := w_const1 dL_nights_238 k_0
theorem s107_239 (h0 : x = 0 ∨ x = 1) : wp 107 239 [l0, l1, l2] [.inl x] h Q ↔ Q (some (.inl x)) h := w_reti dL_nights_239 (e_rz (by decide +kernel) h0)
theorem s107_240 (h0 : a ≠ 0) : wp 107 240 [.inr (.inl a), l1, l2] [] h Q ↔ wp 107 241 [.inr (.inl a), l1, l2] [.inr (.inl a)] h Q := wp_step dL_nights_240 (fun _ => if_neg h0)
theorem s107_241  : wp 107 241 [l0, l1, l2] [v0] h Q ↔ wp 107 243 [l0, l1, l2] [.inl 19, v0] h Q := w_const2 dL_nights_241 k_19 k8_19
theorem s107_243  : wp 107 243 [l0, l1, l2] [.inl x0, .inr (.inl (8 + G.length))] (em G W (hp S D)) Q ↔ wp 76 0 [.inr (.inl (8 + G.length)), .inl x0, .inr (.inl 0), .inr (.inl 0)] [] (em G W (hp S D)) (kont 107 246 [l0, l1, l2] [] Q) := w_callVh (y2 := 76) (vs := [.inl x0]) (st := []) dL_nights_243 (by decide +kernel) rfl (by decide +kernel) (Nat.le_of_ble_eq_true rfl) (eSm_4 (by simp)) 7 rfl em_o rfl (by omega)
theorem s107_246  : wp 107 246 [l0, l1, l2] [.inl x] h Q ↔ if x = 0 then wp 107 249 [l0, l1, l2] [] h Q else wp 107 433 [l0, l1, l2] [] h Q := w_ne0 dL_nights_246 (by decide)
theorem s107_249 (h0 : a ≠ 0) : wp 107 249 [.inr (.inl a), l1, l2] [] h Q ↔ wp 107 250 [.inr (.inl a), l1, l2] [.inr (.inl a)] h Q := wp_step dL_nights_249 (fun _ => if_neg h0)
theorem s107_250  : wp 107 250 [l0, l1, l2] [v0] h Q ↔ wp 107 251 [l0, l1, l2] [.inl 0, v0] h Q := w_const1 dL_nights_250 k_0
theorem s107_251  : wp 107 251 [l0, l1, l2] [.inl x0, .inr (.inl (8 + G.length))] (em G W (hp S D)) Q ↔ wp 89 0 [.inr (.inl (8 + G.length)), .inl x0] [] (em G W (hp S D)) (kont 107 254 [l0, l1, l2] [] Q) := w_callVh (y2 := 89) (vs := [.inl x0]) (st := []) dL_nights_251 (by decide +kernel) rfl (by decide +kernel) (Nat.le_of_ble_eq_true rfl) (eSm_4 (by simp)) 7 rfl em_o rfl (by omega)
theorem s107_254  : wp 107 254 [l0, l1, l2] [v0] h Q ↔ wp 107 256 [l0, l1, l2] [.inl 36, v0] h Q := w_const2 dL_nights_254 k_36 k8_36
theorem s107_256  : wp 107 256 [l0, l1, l2] [.inl z, .inl x] h Q ↔ if x = z then wp 107 259 [l0, l1, l2] [] h Q else wp 107 433 [l0, l1, l2] [] h Q := w_cne dL_nights_256 (by decide)
theorem s107_259 (h0 : a ≠ 0) : wp 107 259 [.inr (.inl a), l1, l2] [] h Q ↔ wp 107 260 [.inr (.inl a), l1, l2] [.inr (.inl a)] h Q := wp_step dL_nights_259 (fun _ => if_neg h0)
theorem s107_260  : wp 107 260 [l0, l1, l2] [.inr (.inl (8 + G.length))] (em G W (hp S D)) Q ↔ wp 85 0 [.inr (.inl (8 + G.length)), .inr (.inl 0)] [] (em G W (hp S D)) (kont 107 263 [l0, l1, l2] [] Q) := w_callVh (y2 := 85) (vs := []) (st := []) dL_nights_260 (by decide +kernel) rfl (by decide +kernel) (Nat.le_of_ble_eq_true rfl) (eSm_4 (by simp)) 7 rfl em_o rfl (by omega)
theorem s107_263  : wp 107 263 [l0, l1, l2] [v0] h Q ↔ wp 107 266 [l0, l1, l2] [.inl 152, v0] h Q := w_const3 dL_nights_263 k_152 k16_152
theorem s107_266  : wp 107 266 [l0, l1, l2] [.inl z, .inl x] h Q ↔ if x = z then wp 107 269 [l0, l1, l2] [] h Q else wp 107 433 [l0, l1, l2] [] h Q := w_cne dL_nights_266 (by decide)
theorem s107_269 (h0 : a ≠ 0) : wp 107 269 [.inr (.inl a), l1, l2] [] h Q ↔ wp 107 270 [.inr (.inl a), l1, l2] [.inr (.inl a)] h Q := wp_step dL_nights_269 (fun _ => if_neg h0)
theorem s107_270  : wp 107 270 [l0, l1, l2] [v0] h Q ↔ wp 107 271 [l0, l1, l2] [.inl 1, v0] h Q := w_const1 dL_nights_270 k_1
theorem s107_271  : wp 107 271 [l0, l1, l2] [.inl x0, .inr (.inl (8 + G.length))] (em G W (hp S D)) Q ↔ wp 76 0 [.inr (.inl (8 + G.length)), .inl x0, .inr (.inl 0), .inr (.inl 0)] [] (em G W (hp S D)) (kont 107 274 [l0, l1, l2] [] Q) := w_callVh (y2 := 76) (vs := [.inl x0]) (st := []) dL_nights_271 (by decide +kernel) rfl (by decide +kernel) (Nat.le_of_ble_eq_true rfl) (eSm_4 (by simp)) 7 rfl em_o rfl (by omega)
theorem s107_274  : wp 107 274 [l0, l1, l2] [.inl x] h Q ↔ if x = 0 then wp 107 277 [l0, l1, l2] [] h Q else wp 107 433 [l0, l1, l2] [] h Q := w_ne0 dL_nights_274 (by decide)
theorem s107_277 (h0 : a ≠ 0) : wp 107 277 [.inr (.inl a), l1, l2] [] h Q ↔ wp 107 278 [.inr (.inl a), l1, l2] [.inr (.inl a)] h Q := wp_step dL_nights_277 (fun _ => if_neg h0)
theorem s107_278  : wp 107 278 [l0, l1, l2] [v0] h Q ↔ wp 107 279 [l0, l1, l2] [.inl 2, v0] h Q := w_const1 dL_nights_278 k_2
theorem s107_279  : wp 107 279 [l0, l1, l2] [v0, v1] h Q ↔ wp 107 280 [l0, l1, l2] [.inl 2, v0, v1] h Q := w_const1 dL_nights_279 k_2
theorem s107_280  : wp 107 280 [l0, l1, l2] [.inl x1, .inl x0, .inr (.inl (8 + G.length))] (em G W (hp S D)) Q ↔ wp 82 0 [.inr (.inl (8 + G.length)), .inl x0, .inl x1, .inr (.inl 0)] [] (em G W (hp S D)) (kont 107 283 [l0, l1, l2] [] Q) := w_callVh (y2 := 82) (vs := [.inl x0, .inl x1]) (st := []) dL_nights_280 (by decide +kernel) rfl (by decide +kernel) (Nat.le_of_ble_eq_true rfl) (eSm_4 (by simp)) 7 rfl em_o rfl (by omega)
theorem s107_283  : wp 107 283 [l0, l1, l2] [v0] h Q ↔ wp 107 285 [l0, l1, l2] [.inl 6, v0] h Q := w_const2 dL_nights_283 k_6 k8_6
theorem s107_285  : wp 107 285 [l0, l1, l2] [.inl z, .inl x] h Q ↔ if x = z then wp 107 288 [l0, l1, l2] [] h Q else wp 107 433 [l0, l1, l2] [] h Q := w_cne dL_nights_285 (by decide)
theorem s107_288 (h0 : a ≠ 0) : wp 107 288 [.inr (.inl a), l1, l2] [] h Q ↔ wp 107 289 [.inr (.inl a), l1, l2] [.inr (.inl a)] h Q := wp_step dL_nights_288 (fun _ => if_neg h0)
theorem s107_289  : wp 107 289 [l0, l1, l2] [v0] h Q ↔ wp 107 290 [l0, l1, l2] [.inl 2, v0] h Q := w_const1 dL_nights_289 k_2
theorem s107_290  : wp 107 290 [l0, l1, l2] [v0, v1] h Q ↔ wp 107 291 [l0, l1, l2] [.inl 4, v0, v1] h Q := w_const1 dL_nights_290 k_4
theorem s107_291  : wp 107 291 [l0, l1, l2] [.inl x1, .inl x0, .inr (.inl (8 + G.length))] (em G W (hp S D)) Q ↔ wp 82 0 [.inr (.inl (8 + G.length)), .inl x0, .inl x1, .inr (.inl 0)] [] (em G W (hp S D)) (kont 107 294 [l0, l1, l2] [] Q) := w_callVh (y2 := 82) (vs := [.inl x0, .inl x1]) (st := []) dL_nights_291 (by decide +kernel) rfl (by decide +kernel) (Nat.le_of_ble_eq_true rfl) (eSm_4 (by simp)) 7 rfl em_o rfl (by omega)
theorem s107_294  : wp 107 294 [l0, l1, l2] [v0] h Q ↔ wp 107 297 [l0, l1, l2] [.inl 690, v0] h Q := w_const3 dL_nights_294 k_690 k16_690
theorem s107_297  : wp 107 297 [l0, l1, l2] [.inl z, .inl x] h Q ↔ if x = z then wp 107 300 [l0, l1, l2] [] h Q else wp 107 433 [l0, l1, l2] [] h Q := w_cne dL_nights_297 (by decide)
theorem s107_300 (h0 : a ≠ 0) : wp 107 300 [.inr (.inl a), l1, l2] [] h Q ↔ wp 107 301 [.inr (.inl a), l1, l2] [.inr (.inl a)] h Q := wp_step dL_nights_300 (fun _ => if_neg h0)
theorem s107_301  : wp 107 301 [l0, l1, l2] [v0] h Q ↔ wp 107 302 [l0, l1, l2] [.inl 3, v0] h Q := w_const1 dL_nights_301 k_3
theorem s107_302  : wp 107 302 [l0, l1, l2] [.inl x0, .inr (.inl (8 + G.length))] (em G W (hp S D)) Q ↔ wp 83 0 [.inr (.inl (8 + G.length)), .inl x0] [] (em G W (hp S D)) (kont 107 305 [l0, l1, l2] [] Q) := w_callVh (y2 := 83) (vs := [.inl x0]) (st := []) dL_nights_302 (by decide +kernel) rfl (by decide +kernel) (Nat.le_of_ble_eq_true rfl) (eSm_4 (by simp)) 7 rfl em_o rfl (by omega)
theorem s107_305  : wp 107 305 [l0, l1, l2] [v0] h Q ↔ wp 107 306 [l0, l1, l2] [.inl 1, v0] h Q := w_const1 dL_nights_305 k_1
theorem s107_306  : wp 107 306 [l0, l1, l2] [.inl z, .inl x] h Q ↔ if x = z then wp 107 309 [l0, l1, l2] [] h Q else wp 107 433 [l0, l1, l2] [] h Q := w_cne dL_nights_306 (by decide)
theorem s107_309 (h0 : a ≠ 0) : wp 107 309 [.inr (.inl a), l1, l2] [] h Q ↔ wp 107 310 [.inr (.inl a), l1, l2] [.inr (.inl a)] h Q := wp_step dL_nights_309 (fun _ => if_neg h0)
theorem s107_310  : wp 107 310 [l0, l1, l2] [v0] h Q ↔ wp 107 311 [l0, l1, l2] [.inl 2, v0] h Q := w_const1 dL_nights_310 k_2
theorem s107_311  : wp 107 311 [l0, l1, l2] [.inl x0, .inr (.inl (8 + G.length))] (em G W (hp S D)) Q ↔ wp 71 0 [.inr (.inl (8 + G.length)), .inl x0, .inr (.inl 0), .inr (.inl 0)] [] (em G W (hp S D)) (kont 107 314 [l0, l1, l2] [] Q) := w_callVh (y2 := 71) (vs := [.inl x0]) (st := []) dL_nights_311 (by decide +kernel) rfl (by decide +kernel) (Nat.le_of_ble_eq_true rfl) (eSm_4 (by simp)) 7 rfl em_o rfl (by omega)
theorem s107_314  : wp 107 314 [l0, l1, l2] [v0] h Q ↔ wp 107 316 [l0, l1, l2] [.inl (-4), v0] h Q := w_const2 dL_nights_314 k_m4 k8_m4
theorem s107_316  : wp 107 316 [l0, l1, l2] [.inl z, .inl x] h Q ↔ if x = z then wp 107 319 [l0, l1, l2] [] h Q else wp 107 433 [l0, l1, l2] [] h Q := w_cne dL_nights_316 (by decide)
theorem s107_319 (h0 : a ≠ 0) : wp 107 319 [.inr (.inl a), l1, l2] [] h Q ↔ wp 107 320 [.inr (.inl a), l1, l2] [.inr (.inl a)] h Q := wp_step dL_nights_319 (fun _ => if_neg h0)
theorem s107_320  : wp 107 320 [l0, l1, l2] [v0] h Q ↔ wp 107 321 [l0, l1, l2] [.inl 2, v0] h Q := w_const1 dL_nights_320 k_2
theorem s107_321  : wp 107 321 [l0, l1, l2] [.inl x0, .inr (.inl (8 + G.length))] (em G W (hp S D)) Q ↔ wp 84 0 [.inr (.inl (8 + G.length)), .inl x0, .inr (.inl 0), .inr (.inl 0), .inr (.inl 0), .inr (.inl 0), .inr (.inl 0)] [] (em G W (hp S D)) (kont 107 324 [l0, l1, l2] [] Q) := w_callVh (y2 := 84) (vs := [.inl x0]) (st := []) dL_nights_321 (by decide +kernel) rfl (by decide +kernel) (Nat.le_of_ble_eq_true rfl) (eSm_4 (by simp)) 7 rfl em_o rfl (by omega)
theorem s107_324  : wp 107 324 [l0, l1, l2] [v0] h Q ↔ wp 107 326 [l0, l1, l2] [.inl 76, v0] h Q := w_const2 dL_nights_324 k_76 k8_76
theorem s107_326  : wp 107 326 [l0, l1, l2] [.inl z, .inl x] h Q ↔ if x = z then wp 107 329 [l0, l1, l2] [] h Q else wp 107 433 [l0, l1, l2] [] h Q := w_cne dL_nights_326 (by decide)
theorem s107_329 (h0 : a ≠ 0) : wp 107 329 [.inr (.inl a), l1, l2] [] h Q ↔ wp 107 330 [.inr (.inl a), l1, l2] [.inr (.inl a)] h Q := wp_step dL_nights_329 (fun _ => if_neg h0)
theorem s107_330  : wp 107 330 [l0, l1, l2] [v0] h Q ↔ wp 107 333 [l0, l1, l2] [.inl 200, v0] h Q := w_const3 dL_nights_330 k_200 k16_200
theorem s107_333  : wp 107 333 [l0, l1, l2] [.inl x0, .inr (.inl (8 + G.length))] (em G W (hp S D)) Q ↔ wp 76 0 [.inr (.inl (8 + G.length)), .inl x0, .inr (.inl 0), .inr (.inl 0)] [] (em G W (hp S D)) (kont 107 336 [l0, l1, l2] [] Q) := w_callVh (y2 := 76) (vs := [.inl x0]) (st := []) dL_nights_333 (by decide +kernel) rfl (by decide +kernel) (Nat.le_of_ble_eq_true rfl) (eSm_4 (by simp)) 7 rfl em_o rfl (by omega)
theorem s107_336  : wp 107 336 [l0, l1, l2] [v0] h Q ↔ wp 107 338 [l0, l1, l2] [.inl 25, v0] h Q := w_const2 dL_nights_336 k_25 k8_25
theorem s107_338  : wp 107 338 [l0, l1, l2] [.inl z, .inl x] h Q ↔ if x = z then wp 107 341 [l0, l1, l2] [] h Q else wp 107 433 [l0, l1, l2] [] h Q := w_cne dL_nights_338 (by decide)
theorem s107_341 (h0 : a ≠ 0) : wp 107 341 [.inr (.inl a), l1, l2] [] h Q ↔ wp 107 342 [.inr (.inl a), l1, l2] [.inr (.inl a)] h Q := wp_step dL_nights_341 (fun _ => if_neg h0)
theorem s107_342  : wp 107 342 [l0, l1, l2] [v0] h Q ↔ wp 107 343 [l0, l1, l2] [.inl 0, v0] h Q := w_const1 dL_nights_342 k_0
theorem s107_343  : wp 107 343 [l0, l1, l2] [.inl x0, .inr (.inl (8 + G.length))] (em G W (hp S D)) Q ↔ wp 89 0 [.inr (.inl (8 + G.length)), .inl x0] [] (em G W (hp S D)) (kont 107 346 [l0, l1, l2] [] Q) := w_callVh (y2 := 89) (vs := [.inl x0]) (st := []) dL_nights_343 (by decide +kernel) rfl (by decide +kernel) (Nat.le_of_ble_eq_true rfl) (eSm_4 (by simp)) 7 rfl em_o rfl (by omega)
theorem s107_346  : wp 107 346 [l0, l1, l2] [v0] h Q ↔ wp 107 349 [l0, l1, l2] [.inl 237, v0] h Q := w_const3 dL_nights_346 k_237 k16_237
theorem s107_349  : wp 107 349 [l0, l1, l2] [.inl z, .inl x] h Q ↔ if x = z then wp 107 352 [l0, l1, l2] [] h Q else wp 107 433 [l0, l1, l2] [] h Q := w_cne dL_nights_349 (by decide)
theorem s107_352 (h0 : a ≠ 0) : wp 107 352 [.inr (.inl a), l1, l2] [] h Q ↔ wp 107 353 [.inr (.inl a), l1, l2] [.inr (.inl a)] h Q := wp_step dL_nights_352 (fun _ => if_neg h0)
theorem s107_353  : wp 107 353 [l0, l1, l2] [v0] h Q ↔ wp 107 355 [l0, l1, l2] [.inl 7, v0] h Q := w_const2 dL_nights_353 k_7 k8_7
theorem s107_355  : wp 107 355 [l0, l1, l2] [.inl x0, .inr (.inl (8 + G.length))] (em G W (hp S D)) Q ↔ wp 89 0 [.inr (.inl (8 + G.length)), .inl x0] [] (em G W (hp S D)) (kont 107 358 [l0, l1, l2] [] Q) := w_callVh (y2 := 89) (vs := [.inl x0]) (st := []) dL_nights_355 (by decide +kernel) rfl (by decide +kernel) (Nat.le_of_ble_eq_true rfl) (eSm_4 (by simp)) 7 rfl em_o rfl (by omega)
theorem s107_358  : wp 107 358 [l0, l1, l2] [v0] h Q ↔ wp 107 360 [l0, l1, l2] [.inl 37, v0] h Q := w_const2 dL_nights_358 k_37 k8_37
theorem s107_360  : wp 107 360 [l0, l1, l2] [.inl z, .inl x] h Q ↔ if x = z then wp 107 363 [l0, l1, l2] [] h Q else wp 107 433 [l0, l1, l2] [] h Q := w_cne dL_nights_360 (by decide)
theorem s107_363 (h0 : a ≠ 0) : wp 107 363 [.inr (.inl a), l1, l2] [] h Q ↔ wp 107 364 [.inr (.inl a), l1, l2] [.inr (.inl a)] h Q := wp_step dL_nights_363 (fun _ => if_neg h0)
theorem s107_364  : wp 107 364 [l0, l1, l2] [v0] h Q ↔ wp 107 366 [l0, l1, l2] [.inl 8, v0] h Q := w_const2 dL_nights_364 k_8 k8_8
theorem s107_366  : wp 107 366 [l0, l1, l2] [.inl x0, .inr (.inl (8 + G.length))] (em G W (hp S D)) Q ↔ wp 89 0 [.inr (.inl (8 + G.length)), .inl x0] [] (em G W (hp S D)) (kont 107 369 [l0, l1, l2] [] Q) := w_callVh (y2 := 89) (vs := [.inl x0]) (st := []) dL_nights_366 (by decide +kernel) rfl (by decide +kernel) (Nat.le_of_ble_eq_true rfl) (eSm_4 (by simp)) 7 rfl em_o rfl (by omega)
theorem s107_369  : wp 107 369 [l0, l1, l2] [v0] h Q ↔ wp 107 371 [l0, l1, l2] [.inl 25, v0] h Q := w_const2 dL_nights_369 k_25 k8_25
theorem s107_371  : wp 107 371 [l0, l1, l2] [.inl z, .inl x] h Q ↔ if x = z then wp 107 374 [l0, l1, l2] [] h Q else wp 107 433 [l0, l1, l2] [] h Q := w_cne dL_nights_371 (by decide)
theorem s107_374 (h0 : a ≠ 0) : wp 107 374 [.inr (.inl a), l1, l2] [] h Q ↔ wp 107 375 [.inr (.inl a), l1, l2] [.inr (.inl a)] h Q := wp_step dL_nights_374 (fun _ => if_neg h0)
theorem s107_375  : wp 107 375 [l0, l1, l2] [v0] h Q ↔ wp 107 377 [l0, l1, l2] [.inl 9, v0] h Q := w_const2 dL_nights_375 k_9 k8_9
theorem s107_377  : wp 107 377 [l0, l1, l2] [.inl x0, .inr (.inl (8 + G.length))] (em G W (hp S D)) Q ↔ wp 89 0 [.inr (.inl (8 + G.length)), .inl x0] [] (em G W (hp S D)) (kont 107 380 [l0, l1, l2] [] Q) := w_callVh (y2 := 89) (vs := [.inl x0]) (st := []) dL_nights_377 (by decide +kernel) rfl (by decide +kernel) (Nat.le_of_ble_eq_true rfl) (eSm_4 (by simp)) 7 rfl em_o rfl (by omega)
theorem s107_380  : wp 107 380 [l0, l1, l2] [v0] h Q ↔ wp 107 381 [l0, l1, l2] [.inl 3, v0] h Q := w_const1 dL_nights_380 k_3
theorem s107_381  : wp 107 381 [l0, l1, l2] [.inl z, .inl x] h Q ↔ if x = z then wp 107 384 [l0, l1, l2] [] h Q else wp 107 433 [l0, l1, l2] [] h Q := w_cne dL_nights_381 (by decide)
theorem s107_384 (h0 : a ≠ 0) : wp 107 384 [.inr (.inl a), l1, l2] [] h Q ↔ wp 107 385 [.inr (.inl a), l1, l2] [.inr (.inl a)] h Q := wp_step dL_nights_384 (fun _ => if_neg h0)
theorem s107_385  : wp 107 385 [l0, l1, l2] [v0] h Q ↔ wp 107 386 [l0, l1, l2] [.inl 0, v0] h Q := w_const1 dL_nights_385 k_0
theorem s107_386  : wp 107 386 [l0, l1, l2] [v0, v1] h Q ↔ wp 107 387 [l0, l1, l2] [.inl 0, v0, v1] h Q := w_const1 dL_nights_386 k_0
theorem s107_387  : wp 107 387 [l0, l1, l2] [v0, v1, v2] h Q ↔ wp 107 388 [l0, l1, l2] [.inl 2, v0, v1, v2] h Q := w_const1 dL_nights_387 k_2
theorem s107_388  : wp 107 388 [l0, l1, l2] [v0, v1, v2, v3] h Q ↔ wp 107 391 [l0, l1, l2] [.inl 187, v0, v1, v2, v3] h Q := w_const3 dL_nights_388 k_187 k16_187
theorem s107_391  : wp 107 391 [l0, l1, l2] [.inl x4, .inl x3, .inl x2, .inl x1, .inr (.inl a0)] h Q ↔ wp 106 0 [.inr (.inl a0), .inl x1, .inl x2, .inl x3, .inl x4] [] h (kont 107 394 [l0, l1, l2] [] Q) := w_callS (y2 := 106) (kd := 0) (vs := [.inr (.inl a0), .inl x1, .inl x2, .inl x3, .inl x4]) (st := []) dL_nights_391 (by decide +kernel) (by decide) rfl (by decide +kernel) (Nat.le_of_ble_eq_true rfl) (eSm_4 (by simp))
theorem s107_394  : wp 107 394 [l0, l1, l2] [.inl x] h Q ↔ if x = 0 then wp 107 433 [l0, l1, l2] [] h Q else wp 107 397 [l0, l1, l2] [] h Q := w_eq0 dL_nights_394 (by decide)
theorem s107_397 (h0 : a ≠ 0) : wp 107 397 [.inr (.inl a), l1, l2] [] h Q ↔ wp 107 398 [.inr (.inl a), l1, l2] [.inr (.inl a)] h Q := wp_step dL_nights_397 (fun _ => if_neg h0)
theorem s107_398  : wp 107 398 [l0, l1, l2] [v0] h Q ↔ wp 107 399 [l0, l1, l2] [.inl 1, v0] h Q := w_const1 dL_nights_398 k_1
theorem s107_399  : wp 107 399 [l0, l1, l2] [v0, v1] h Q ↔ wp 107 400 [l0, l1, l2] [.inl 1, v0, v1] h Q := w_const1 dL_nights_399 k_1
theorem s107_400  : wp 107 400 [l0, l1, l2] [v0, v1, v2] h Q ↔ wp 107 401 [l0, l1, l2] [.inl 2, v0, v1, v2] h Q := w_const1 dL_nights_400 k_2
theorem s107_401  : wp 107 401 [l0, l1, l2] [v0, v1, v2, v3] h Q ↔ wp 107 404 [l0, l1, l2] [.inl 150, v0, v1, v2, v3] h Q := w_const3 dL_nights_401 k_150 k16_150
theorem s107_404  : wp 107 404 [l0, l1, l2] [.inl x4, .inl x3, .inl x2, .inl x1, .inr (.inl a0)] h Q ↔ wp 106 0 [.inr (.inl a0), .inl x1, .inl x2, .inl x3, .inl x4] [] h (kont 107 407 [l0, l1, l2] [] Q) := w_callS (y2 := 106) (kd := 0) (vs := [.inr (.inl a0), .inl x1, .inl x2, .inl x3, .inl x4]) (st := []) dL_nights_404 (by decide +kernel) (by decide) rfl (by decide +kernel) (Nat.le_of_ble_eq_true rfl) (eSm_4 (by simp))
theorem s107_407  : wp 107 407 [l0, l1, l2] [.inl x] h Q ↔ if x = 0 then wp 107 433 [l0, l1, l2] [] h Q else wp 107 410 [l0, l1, l2] [] h Q := w_eq0 dL_nights_407 (by decide)
theorem s107_410 (h0 : a ≠ 0) : wp 107 410 [.inr (.inl a), l1, l2] [] h Q ↔ wp 107 411 [.inr (.inl a), l1, l2] [.inr (.inl a)] h Q := wp_step dL_nights_410 (fun _ => if_neg h0)
theorem s107_411  : wp 107 411 [l0, l1, l2] [v0] h Q ↔ wp 107 412 [l0, l1, l2] [.inl 2, v0] h Q := w_const1 dL_nights_411 k_2
theorem s107_412  : wp 107 412 [l0, l1, l2] [v0, v1] h Q ↔ wp 107 413 [l0, l1, l2] [.inl 3, v0, v1] h Q := w_const1 dL_nights_412 k_3
theorem s107_413  : wp 107 413 [l0, l1, l2] [v0, v1, v2] h Q ↔ wp 107 414 [l0, l1, l2] [.inl 2, v0, v1, v2] h Q := w_const1 dL_nights_413 k_2
theorem s107_414  : wp 107 414 [l0, l1, l2] [v0, v1, v2, v3] h Q ↔ wp 107 416 [l0, l1, l2] [.inl 12, v0, v1, v2, v3] h Q := w_const2 dL_nights_414 k_12 k8_12
theorem s107_416  : wp 107 416 [l0, l1, l2] [.inl x4, .inl x3, .inl x2, .inl x1, .inr (.inl a0)] h Q ↔ wp 106 0 [.inr (.inl a0), .inl x1, .inl x2, .inl x3, .inl x4] [] h (kont 107 419 [l0, l1, l2] [] Q) := w_callS (y2 := 106) (kd := 0) (vs := [.inr (.inl a0), .inl x1, .inl x2, .inl x3, .inl x4]) (st := []) dL_nights_416 (by decide +kernel) (by decide) rfl (by decide +kernel) (Nat.le_of_ble_eq_true rfl) (eSm_4 (by simp))
theorem s107_419  : wp 107 419 [l0, l1, l2] [.inl x] h Q ↔ if x = 0 then wp 107 433 [l0, l1, l2] [] h Q else wp 107 422 [l0, l1, l2] [] h Q := w_eq0 dL_nights_419 (by decide)
theorem s107_422 (h0 : a ≠ 0) : wp 107 422 [.inr (.inl a), l1, l2] [] h Q ↔ wp 107 423 [.inr (.inl a), l1, l2] [.inr (.inl a)] h Q := wp_step dL_nights_422 (fun _ => if_neg h0)
theorem s107_423  : wp 107 423 [l0, l1, l2] [v0] h Q ↔ wp 107 424 [l0, l1, l2] [.inl 3, v0] h Q := w_const1 dL_nights_423 k_3
theorem s107_424  : wp 107 424 [l0, l1, l2] [v0, v1] h Q ↔ wp 107 425 [l0, l1, l2] [.inl 0, v0, v1] h Q := w_const1 dL_nights_424 k_0
theorem s107_425  : wp 107 425 [l0, l1, l2] [.inl x1, .inl x0, .inr (.inl (8 + G.length))] (em G W (hp S D)) Q ↔ wp 88 0 [.inr (.inl (8 + G.length)), .inl x0, .inl x1, .inr (.inl 0)] [] (em G W (hp S D)) (kont 107 428 [l0, l1, l2] [] Q) := w_callVh (y2 := 88) (vs := [.inl x0, .inl x1]) (st := []) dL_nights_425 (by decide +kernel) rfl (by decide +kernel) (Nat.le_of_ble_eq_true rfl) (eSm_4 (by simp)) 7 rfl em_o rfl (by omega)
theorem s107_428  : wp 107 428 [l0, l1, l2] [v0] h Q ↔ wp 107 430 [l0, l1, l2] [.inl (-5), v0] h Q := w_const2 dL_nights_428 k_m5 k8_m5
theorem s107_430  : wp 107 430 [l0, l1, l2] [.inl z, .inl x] h Q ↔ if x = z then wp 107 435 [l0, l1, l2] [] h Q else wp 107 433 [l0, l1, l2] [] h Q := w_ceq dL_nights_430 (by decide)
theorem s107_433  : wp 107 433 [l0, l1, l2] [] h Q ↔ wp 107 434 [l0, l1, l2] [.inl 0] h Q := w_const1 dL_nights_433 k_0
theorem s107_434 (h0 : x = 0 ∨ x = 1) : wp 107 434 [l0, l1, l2] [.inl x] h Q ↔ Q (some (.inl x)) h := w_reti dL_nights_434 (e_rz (by decide +kernel) h0)
theorem s107_435 (h0 : a ≠ 0) : wp 107 435 [.inr (.inl a), l1, l2] [] h Q ↔ wp 107 436 [.inr (.inl a), l1, l2] [.inr (.inl a)] h Q := wp_step dL_nights_435 (fun _ => if_neg h0)
theorem s107_436  : wp 107 436 [l0, l1, l2] [v0] h Q ↔ wp 107 437 [l0, l1, l2] [.inl 2, v0] h Q := w_const1 dL_nights_436 k_2
theorem s107_437  : wp 107 437 [l0, l1, l2] [v0, v1] h Q ↔ wp 107 439 [l0, l1, l2] [.inl 6, v0, v1] h Q := w_const2 dL_nights_437 k_6 k8_6
theorem s107_439  : wp 107 439 [l0, l1, l2] [.inl x1, .inl x0, .inr (.inl (8 + G.length))] (em G W (hp S D)) Q ↔ wp 82 0 [.inr (.inl (8 + G.length)), .inl x0, .inl x1, .inr (.inl 0)] [] (em G W (hp S D)) (kont 107 442 [l0, l1, l2] [] Q) := w_callVh (y2 := 82) (vs := [.inl x0, .inl x1]) (st := []) dL_nights_439 (by decide +kernel) rfl (by decide +kernel) (Nat.le_of_ble_eq_true rfl) (eSm_4 (by simp)) 7 rfl em_o rfl (by omega)
theorem s107_442  : wp 107 442 [l0, l1, l2] [v0] h Q ↔ wp 107 443 [l0, l1, l2] [.inl 1, v0] h Q := w_const1 dL_nights_442 k_1
theorem s107_443  : wp 107 443 [l0, l1, l2] [.inl z, .inl x] h Q ↔ if x = z then wp 107 446 [l0, l1, l2] [] h Q else wp 107 538 [l0, l1, l2] [] h Q := w_cne dL_nights_443 (by decide)
theorem s107_446 (h0 : a ≠ 0) : wp 107 446 [.inr (.inl a), l1, l2] [] h Q ↔ wp 107 447 [.inr (.inl a), l1, l2] [.inr (.inl a)] h Q := wp_step dL_nights_446 (fun _ => if_neg h0)
theorem s107_447  : wp 107 447 [l0, l1, l2] [v0] h Q ↔ wp 107 448 [l0, l1, l2] [.inl 2, v0] h Q := w_const1 dL_nights_447 k_2
theorem s107_448  : wp 107 448 [l0, l1, l2] [v0, v1] h Q ↔ wp 107 449 [l0, l1, l2] [.inl 5, v0, v1] h Q := w_const1 dL_nights_448 k_5
theorem s107_449  : wp 107 449 [l0, l1, l2] [.inl x1, .inl x0, .inr (.inl (8 + G.length))] (em G W (hp S D)) Q ↔ wp 82 0 [.inr (.inl (8 + G.length)), .inl x0, .inl x1, .inr (.inl 0)] [] (em G W (hp S D)) (kont 107 452 [l0, l1, l2] [] Q) := w_callVh (y2 := 82) (vs := [.inl x0, .inl x1]) (st := []) dL_nights_449 (by decide +kernel) rfl (by decide +kernel) (Nat.le_of_ble_eq_true rfl) (eSm_4 (by simp)) 7 rfl em_o rfl (by omega)
theorem s107_452  : wp 107 452 [l0, l1, l2] [v0] h Q ↔ wp 107 453 [l0, l1, l2] [.inl 1, v0] h Q := w_const1 dL_nights_452 k_1
theorem s107_453  : wp 107 453 [l0, l1, l2] [.inl z, .inl x] h Q ↔ if x = z then wp 107 456 [l0, l1, l2] [] h Q else wp 107 538 [l0, l1, l2] [] h Q := w_cne dL_nights_453 (by decide)
theorem s107_456 (h0 : a ≠ 0) : wp 107 456 [.inr (.inl a), l1, l2] [] h Q ↔ wp 107 457 [.inr (.inl a), l1, l2] [.inr (.inl a)] h Q := wp_step dL_nights_456 (fun _ => if_neg h0)
theorem s107_457  : wp 107 457 [l0, l1, l2] [v0] h Q ↔ wp 107 458 [l0, l1, l2] [.inl 2, v0] h Q := w_const1 dL_nights_457 k_2
theorem s107_458  : wp 107 458 [l0, l1, l2] [v0, v1] h Q ↔ wp 107 459 [l0, l1, l2] [.inl 4, v0, v1] h Q := w_const1 dL_nights_458 k_4
theorem s107_459  : wp 107 459 [l0, l1, l2] [.inl x1, .inl x0, .inr (.inl (8 + G.length))] (em G W (hp S D)) Q ↔ wp 82 0 [.inr (.inl (8 + G.length)), .inl x0, .inl x1, .inr (.inl 0)] [] (em G W (hp S D)) (kont 107 462 [l0, l1, l2] [] Q) := w_callVh (y2 := 82) (vs := [.inl x0, .inl x1]) (st := []) dL_nights_459 (by decide +kernel) rfl (by decide +kernel) (Nat.le_of_ble_eq_true rfl) (eSm_4 (by simp)) 7 rfl em_o rfl (by omega)
theorem s107_462  : wp 107 462 [l0, l1, l2] [.inl x] h Q ↔ if x = 0 then wp 107 465 [l0, l1, l2] [] h Q else wp 107 538 [l0, l1, l2] [] h Q := w_ne0 dL_nights_462 (by decide)
theorem s107_465 (h0 : a ≠ 0) : wp 107 465 [.inr (.inl a), l1, l2] [] h Q ↔ wp 107 466 [.inr (.inl a), l1, l2] [.inr (.inl a)] h Q := wp_step dL_nights_465 (fun _ => if_neg h0)
theorem s107_466  : wp 107 466 [l0, l1, l2] [v0] h Q ↔ wp 107 467 [l0, l1, l2] [.inl 2, v0] h Q := w_const1 dL_nights_466 k_2
theorem s107_467  : wp 107 467 [l0, l1, l2] [v0, v1] h Q ↔ wp 107 468 [l0, l1, l2] [.inl 2, v0, v1] h Q := w_const1 dL_nights_467 k_2
theorem s107_468  : wp 107 468 [l0, l1, l2] [.inl x1, .inl x0, .inr (.inl (8 + G.length))] (em G W (hp S D)) Q ↔ wp 82 0 [.inr (.inl (8 + G.length)), .inl x0, .inl x1, .inr (.inl 0)] [] (em G W (hp S D)) (kont 107 471 [l0, l1, l2] [] Q) := w_callVh (y2 := 82) (vs := [.inl x0, .inl x1]) (st := []) dL_nights_468 (by decide +kernel) rfl (by decide +kernel) (Nat.le_of_ble_eq_true rfl) (eSm_4 (by simp)) 7 rfl em_o rfl (by omega)
theorem s107_471  : wp 107 471 [l0, l1, l2] [v0] h Q ↔ wp 107 473 [l0, l1, l2] [.inl 100, v0] h Q := w_const2 dL_nights_471 k_100 k8_100
theorem s107_473  : wp 107 473 [l0, l1, l2] [.inl z, .inl x] h Q ↔ if x = z then wp 107 476 [l0, l1, l2] [] h Q else wp 107 538 [l0, l1, l2] [] h Q := w_cne dL_nights_473 (by decide)
theorem s107_476 (h0 : a ≠ 0) : wp 107 476 [.inr (.inl a), l1, l2] [] h Q ↔ wp 107 477 [.inr (.inl a), l1, l2] [.inr (.inl a)] h Q := wp_step dL_nights_476 (fun _ => if_neg h0)
theorem s107_477  : wp 107 477 [l0, l1, l2] [v0] h Q ↔ wp 107 478 [l0, l1, l2] [.inl 2, v0] h Q := w_const1 dL_nights_477 k_2
theorem s107_478  : wp 107 478 [l0, l1, l2] [.inl x0, .inr (.inl (8 + G.length))] (em G W (hp S D)) Q ↔ wp 84 0 [.inr (.inl (8 + G.length)), .inl x0, .inr (.inl 0), .inr (.inl 0), .inr (.inl 0), .inr (.inl 0), .inr (.inl 0)] [] (em G W (hp S D)) (kont 107 481 [l0, l1, l2] [] Q) := w_callVh (y2 := 84) (vs := [.inl x0]) (st := []) dL_nights_478 (by decide +kernel) rfl (by decide +kernel) (Nat.le_of_ble_eq_true rfl) (eSm_4 (by simp)) 7 rfl em_o rfl (by omega)
theorem s107_481  : wp 107 481 [l0, l1, l2] [v0] h Q ↔ wp 107 483 [l0, l1, l2] [.inl (-4), v0] h Q := w_const2 dL_nights_481 k_m4 k8_m4
theorem s107_483  : wp 107 483 [l0, l1, l2] [.inl z, .inl x] h Q ↔ if x = z then wp 107 486 [l0, l1, l2] [] h Q else wp 107 538 [l0, l1, l2] [] h Q := w_cne dL_nights_483 (by decide)
theorem s107_486 (h0 : a ≠ 0) : wp 107 486 [.inr (.inl a), l1, l2] [] h Q ↔ wp 107 487 [.inr (.inl a), l1, l2] [.inr (.inl a)] h Q := wp_step dL_nights_486 (fun _ => if_neg h0)
theorem s107_487  : wp 107 487 [l0, l1, l2] [v0] h Q ↔ wp 107 488 [l0, l1, l2] [.inl 0, v0] h Q := w_const1 dL_nights_487 k_0
theorem s107_488  : wp 107 488 [l0, l1, l2] [.inl x0, .inr (.inl (8 + G.length))] (em G W (hp S D)) Q ↔ wp 86 0 [.inr (.inl (8 + G.length)), .inl x0] [] (em G W (hp S D)) (kont 107 491 [l0, l1, l2] [] Q) := w_callVh (y2 := 86) (vs := [.inl x0]) (st := []) dL_nights_488 (by decide +kernel) rfl (by decide +kernel) (Nat.le_of_ble_eq_true rfl) (eSm_4 (by simp)) 7 rfl em_o rfl (by omega)
theorem s107_491  : wp 107 491 [l0, l1, l2] [v0] h Q ↔ wp 107 493 [l0, l1, l2] [.inl (-5), v0] h Q := w_const2 dL_nights_491 k_m5 k8_m5
theorem s107_493  : wp 107 493 [l0, l1, l2] [.inl z, .inl x] h Q ↔ if x = z then wp 107 496 [l0, l1, l2] [] h Q else wp 107 538 [l0, l1, l2] [] h Q := w_cne dL_nights_493 (by decide)
theorem s107_496 (h0 : a ≠ 0) : wp 107 496 [.inr (.inl a), l1, l2] [] h Q ↔ wp 107 497 [.inr (.inl a), l1, l2] [.inr (.inl a)] h Q := wp_step dL_nights_496 (fun _ => if_neg h0)
theorem s107_497  : wp 107 497 [l0, l1, l2] [v0] h Q ↔ wp 107 498 [l0, l1, l2] [.inl 5, v0] h Q := w_const1 dL_nights_497 k_5
theorem s107_498  : wp 107 498 [l0, l1, l2] [.inl x0, .inr (.inl (8 + G.length))] (em G W (hp S D)) Q ↔ wp 83 0 [.inr (.inl (8 + G.length)), .inl x0] [] (em G W (hp S D)) (kont 107 501 [l0, l1, l2] [] Q) := w_callVh (y2 := 83) (vs := [.inl x0]) (st := []) dL_nights_498 (by decide +kernel) rfl (by decide +kernel) (Nat.le_of_ble_eq_true rfl) (eSm_4 (by simp)) 7 rfl em_o rfl (by omega)
theorem s107_501  : wp 107 501 [l0, l1, l2] [v0] h Q ↔ wp 107 503 [l0, l1, l2] [.inl (-5), v0] h Q := w_const2 dL_nights_501 k_m5 k8_m5
theorem s107_503  : wp 107 503 [l0, l1, l2] [.inl z, .inl x] h Q ↔ if x = z then wp 107 506 [l0, l1, l2] [] h Q else wp 107 538 [l0, l1, l2] [] h Q := w_cne dL_nights_503 (by decide)
theorem s107_506 (h0 : a ≠ 0) : wp 107 506 [.inr (.inl a), l1, l2] [] h Q ↔ wp 107 507 [.inr (.inl a), l1, l2] [.inr (.inl a)] h Q := wp_step dL_nights_506 (fun _ => if_neg h0)
theorem s107_507  : wp 107 507 [l0, l1, l2] [v0] h Q ↔ wp 107 508 [l0, l1, l2] [.inl 3, v0] h Q := w_const1 dL_nights_507 k_3
theorem s107_508  : wp 107 508 [l0, l1, l2] [.inl x0, .inr (.inl (8 + G.length))] (em G W (hp S D)) Q ↔ wp 83 0 [.inr (.inl (8 + G.length)), .inl x0] [] (em G W (hp S D)) (kont 107 511 [l0, l1, l2] [] Q) := w_callVh (y2 := 83) (vs := [.inl x0]) (st := []) dL_nights_508 (by decide +kernel) rfl (by decide +kernel) (Nat.le_of_ble_eq_true rfl) (eSm_4 (by simp)) 7 rfl em_o rfl (by omega)
theorem s107_511  : wp 107 511 [l0, l1, l2] [.inl x] h Q ↔ if x = 0 then wp 107 514 [l0, l1, l2] [] h Q else wp 107 538 [l0, l1, l2] [] h Q := w_ne0 dL_nights_511 (by decide)
theorem s107_514 (h0 : a ≠ 0) : wp 107 514 [.inr (.inl a), l1, l2] [] h Q ↔ wp 107 515 [.inr (.inl a), l1, l2] [.inr (.inl a)] h Q := wp_step dL_nights_514 (fun _ => if_neg h0)
theorem s107_515  : wp 107 515 [l0, l1, l2] [v0] h Q ↔ wp 107 516 [l0, l1, l2] [.inl 2, v0] h Q := w_const1 dL_nights_515 k_2
theorem s107_516  : wp 107 516 [l0, l1, l2] [.inl x0, .inr (.inl (8 + G.length))] (em G W (hp S D)) Q ↔ wp 89 0 [.inr (.inl (8 + G.length)), .inl x0] [] (em G W (hp S D)) (kont 107 519 [l0, l1, l2] [] Q) := w_callVh (y2 := 89) (vs := [.inl x0]) (st := []) dL_nights_516 (by decide +kernel) rfl (by decide +kernel) (Nat.le_of_ble_eq_true rfl) (eSm_4 (by simp)) 7 rfl em_o rfl (by omega)
theorem s107_519  : wp 107 519 [l0, l1, l2] [v0] h Q ↔ wp 107 520 [l0, l1, l2] [.inl 1, v0] h Q := w_const1 dL_nights_519 k_1
theorem s107_520  : wp 107 520 [l0, l1, l2] [.inl z, .inl x] h Q ↔ if x = z then wp 107 523 [l0, l1, l2] [] h Q else wp 107 538 [l0, l1, l2] [] h Q := w_cne dL_nights_520 (by decide)
theorem s107_523 (h0 : a ≠ 0) : wp 107 523 [.inr (.inl a), l1, l2] [] h Q ↔ wp 107 524 [.inr (.inl a), l1, l2] [.inr (.inl a)] h Q := wp_step dL_nights_523 (fun _ => if_neg h0)
theorem s107_524  : wp 107 524 [l0, l1, l2] [v0] h Q ↔ wp 107 525 [l0, l1, l2] [.inl 3, v0] h Q := w_const1 dL_nights_524 k_3
theorem s107_525  : wp 107 525 [l0, l1, l2] [.inl x0, .inr (.inl (8 + G.length))] (em G W (hp S D)) Q ↔ wp 89 0 [.inr (.inl (8 + G.length)), .inl x0] [] (em G W (hp S D)) (kont 107 528 [l0, l1, l2] [] Q) := w_callVh (y2 := 89) (vs := [.inl x0]) (st := []) dL_nights_525 (by decide +kernel) rfl (by decide +kernel) (Nat.le_of_ble_eq_true rfl) (eSm_4 (by simp)) 7 rfl em_o rfl (by omega)
theorem s107_528  : wp 107 528 [l0, l1, l2] [.inl x] h Q ↔ if x = 0 then wp 107 531 [l0, l1, l2] [] h Q else wp 107 538 [l0, l1, l2] [] h Q := w_ne0 dL_nights_528 (by decide)
theorem s107_531 (h0 : a ≠ 0) : wp 107 531 [.inr (.inl a), l1, l2] [] h Q ↔ wp 107 532 [.inr (.inl a), l1, l2] [.inr (.inl a)] h Q := wp_step dL_nights_531 (fun _ => if_neg h0)
theorem s107_532  : wp 107 532 [l0, l1, l2] [.inr (.inl a0)] h Q ↔ wp 105 0 [.inr (.inl a0), .inr (.inl 0), .inr (.inl 0), .inr (.inl 0)] [] h (kont 107 535 [l0, l1, l2] [] Q) := w_callS (y2 := 105) (kd := 0) (vs := [.inr (.inl a0)]) (st := []) dL_nights_532 (by decide +kernel) (by decide) rfl (by decide +kernel) (Nat.le_of_ble_eq_true rfl) (eSm_4 (by simp))
theorem s107_535  : wp 107 535 [l0, l1, l2] [.inl x] h Q ↔ if x = 0 then wp 107 538 [l0, l1, l2] [] h Q else wp 107 540 [l0, l1, l2] [] h Q := w_ne0 dL_nights_535 (by decide)
theorem s107_538  : wp 107 538 [l0, l1, l2] [] h Q ↔ wp 107 539 [l0, l1, l2] [.inl 0] h Q := w_const1 dL_nights_538 k_0
theorem s107_539 (h0 : x = 0 ∨ x = 1) : wp 107 539 [l0, l1, l2] [.inl x] h Q ↔ Q (some (.inl x)) h := w_reti dL_nights_539 (e_rz (by decide +kernel) h0)
theorem s107_540 (h0 : a ≠ 0) : wp 107 540 [.inr (.inl a), l1, l2] [] h Q ↔ wp 107 541 [.inr (.inl a), l1, l2] [.inr (.inl a)] h Q := wp_step dL_nights_540 (fun _ => if_neg h0)
theorem s107_541  : wp 107 541 [l0, l1, l2] [v0] h Q ↔ wp 107 544 [l0, l1, l2] [.inl 240, v0] h Q := w_const3 dL_nights_541 k_240 k16_240
theorem s107_544  : wp 107 544 [l0, l1, l2] [v0, v1] h Q ↔ wp 107 545 [l0, l1, l2] [.inl 1, v0, v1] h Q := w_const1 dL_nights_544 k_1
theorem s107_545  : wp 107 545 [l0, l1, l2] [v0, v1, v2] h Q ↔ wp 107 546 [l0, l1, l2] [.inl 3, v0, v1, v2] h Q := w_const1 dL_nights_545 k_3
theorem s107_546  : wp 107 546 [l0, l1, l2] [.inl x2, .inl x1, .inl x0, .inr (.inl (8 + G.length))] (em G W (hp S D)) Q ↔ wp 74 0 [.inr (.inl (8 + G.length)), .inl x0, .inl x1, .inl x2] [] (em G W (hp S D)) (kont 107 549 [l0, l1, l2] [] Q) := w_callVh (y2 := 74) (vs := [.inl x0, .inl x1, .inl x2]) (st := []) dL_nights_546 (by decide +kernel) rfl (by decide +kernel) (Nat.le_of_ble_eq_true rfl) (eSm_4 (by simp)) 7 rfl em_o rfl (by omega)
theorem s107_549  : wp 107 549 [l0, l1, l2] [v0] h Q ↔ wp 107 550 [l0, l1, l2] [.inl 1, v0] h Q := w_const1 dL_nights_549 k_1
theorem s107_550  : wp 107 550 [l0, l1, l2] [.inl z, .inl x] h Q ↔ if x = z then wp 107 553 [l0, l1, l2] [] h Q else wp 107 726 [l0, l1, l2] [] h Q := w_cne dL_nights_550 (by decide)
theorem s107_553 (h0 : a ≠ 0) : wp 107 553 [.inr (.inl a), l1, l2] [] h Q ↔ wp 107 554 [.inr (.inl a), l1, l2] [.inr (.inl a)] h Q := wp_step dL_nights_553 (fun _ => if_neg h0)
theorem s107_554  : wp 107 554 [l0, l1, l2] [v0] h Q ↔ wp 107 555 [l0, l1, l2] [.inl 3, v0] h Q := w_const1 dL_nights_554 k_3
theorem s107_555  : wp 107 555 [l0, l1, l2] [v0, v1] h Q ↔ wp 107 556 [l0, l1, l2] [.inl 1, v0, v1] h Q := w_const1 dL_nights_555 k_1
theorem s107_556  : wp 107 556 [l0, l1, l2] [.inl x1, .inl x0, .inr (.inl (8 + G.length))] (em G W (hp S D)) Q ↔ wp 68 0 [.inr (.inl (8 + G.length)), .inl x0, .inl x1, .inr (.inl 0)] [] (em G W (hp S D)) (kont 107 559 [l0, l1, l2] [] Q) := w_callVh (y2 := 68) (vs := [.inl x0, .inl x1]) (st := []) dL_nights_556 (by decide +kernel) rfl (by decide +kernel) (Nat.le_of_ble_eq_true rfl) (eSm_4 (by simp)) 7 rfl em_o rfl (by omega)
theorem s107_559  : wp 107 559 [l0, l1, l2] [.inl x] h Q ↔ if x = 0 then wp 107 562 [l0, l1, l2] [] h Q else wp 107 726 [l0, l1, l2] [] h Q := w_ne0 dL_nights_559 (by decide)
theorem s107_562 (h0 : a ≠ 0) : wp 107 562 [.inr (.inl a), l1, l2] [] h Q ↔ wp 107 563 [.inr (.inl a), l1, l2] [.inr (.inl a)] h Q := wp_step dL_nights_562 (fun _ => if_neg h0)
theorem s107_563  : wp 107 563 [l0, l1, l2] [.inr (.inl (8 + G.length))] (em G W (hp S D)) Q ↔ wp 85 0 [.inr (.inl (8 + G.length)), .inr (.inl 0)] [] (em G W (hp S D)) (kont 107 566 [l0, l1, l2] [] Q) := w_callVh (y2 := 85) (vs := []) (st := []) dL_nights_563 (by decide +kernel) rfl (by decide +kernel) (Nat.le_of_ble_eq_true rfl) (eSm_4 (by simp)) 7 rfl em_o rfl (by omega)
theorem s107_566  : wp 107 566 [l0, l1, l2] [.inl x] h Q ↔ if x = 0 then wp 107 569 [l0, l1, l2] [] h Q else wp 107 726 [l0, l1, l2] [] h Q := w_ne0 dL_nights_566 (by decide)
theorem s107_569 (h0 : a ≠ 0) : wp 107 569 [.inr (.inl a), l1, l2] [] h Q ↔ wp 107 570 [.inr (.inl a), l1, l2] [.inr (.inl a)] h Q := wp_step dL_nights_569 (fun _ => if_neg h0)
theorem s107_570  : wp 107 570 [l0, l1, l2] [v0] h Q ↔ wp 107 571 [l0, l1, l2] [.inl 3, v0] h Q := w_const1 dL_nights_570 k_3
theorem s107_571  : wp 107 571 [l0, l1, l2] [.inl x0, .inr (.inl (8 + G.length))] (em G W (hp S D)) Q ↔ wp 76 0 [.inr (.inl (8 + G.length)), .inl x0, .inr (.inl 0), .inr (.inl 0)] [] (em G W (hp S D)) (kont 107 574 [l0, l1, l2] [] Q) := w_callVh (y2 := 76) (vs := [.inl x0]) (st := []) dL_nights_571 (by decide +kernel) rfl (by decide +kernel) (Nat.le_of_ble_eq_true rfl) (eSm_4 (by simp)) 7 rfl em_o rfl (by omega)
theorem s107_574  : wp 107 574 [l0, l1, l2] [v0] h Q ↔ wp 107 575 [l0, l1, l2] [.inl 3, v0] h Q := w_const1 dL_nights_574 k_3
theorem s107_575  : wp 107 575 [l0, l1, l2] [.inl z, .inl x] h Q ↔ if x = z then wp 107 578 [l0, l1, l2] [] h Q else wp 107 726 [l0, l1, l2] [] h Q := w_cne dL_nights_575 (by decide)
theorem s107_578 (h0 : a ≠ 0) : wp 107 578 [.inr (.inl a), l1, l2] [] h Q ↔ wp 107 579 [.inr (.inl a), l1, l2] [.inr (.inl a)] h Q := wp_step dL_nights_578 (fun _ => if_neg h0)
theorem s107_579  : wp 107 579 [l0, l1, l2] [v0] h Q ↔ wp 107 580 [l0, l1, l2] [.inl 1, v0] h Q := w_const1 dL_nights_579 k_1
theorem s107_580  : wp 107 580 [l0, l1, l2] [.inl x0, .inr (.inl (8 + G.length))] (em G W (hp S D)) Q ↔ wp 76 0 [.inr (.inl (8 + G.length)), .inl x0, .inr (.inl 0), .inr (.inl 0)] [] (em G W (hp S D)) (kont 107 583 [l0, l1, l2] [] Q) := w_callVh (y2 := 76) (vs := [.inl x0]) (st := []) dL_nights_580 (by decide +kernel) rfl (by decide +kernel) (Nat.le_of_ble_eq_true rfl) (eSm_4 (by simp)) 7 rfl em_o rfl (by omega)
theorem s107_583  : wp 107 583 [l0, l1, l2] [v0] h Q ↔ wp 107 584 [l0, l1, l2] [.inl 1, v0] h Q := w_const1 dL_nights_583 k_1
theorem s107_584  : wp 107 584 [l0, l1, l2] [.inl z, .inl x] h Q ↔ if x = z then wp 107 587 [l0, l1, l2] [] h Q else wp 107 726 [l0, l1, l2] [] h Q := w_cne dL_nights_584 (by decide)
theorem s107_587 (h0 : a ≠ 0) : wp 107 587 [.inr (.inl a), l1, l2] [] h Q ↔ wp 107 588 [.inr (.inl a), l1, l2] [.inr (.inl a)] h Q := wp_step dL_nights_587 (fun _ => if_neg h0)
theorem s107_588  : wp 107 588 [l0, l1, l2] [v0] h Q ↔ wp 107 589 [l0, l1, l2] [.inl 0, v0] h Q := w_const1 dL_nights_588 k_0
theorem s107_589  : wp 107 589 [l0, l1, l2] [v0, v1] h Q ↔ wp 107 590 [l0, l1, l2] [.inl 4, v0, v1] h Q := w_const1 dL_nights_589 k_4
theorem s107_590  : wp 107 590 [l0, l1, l2] [v0, v1, v2] h Q ↔ wp 107 591 [l0, l1, l2] [.inl 3, v0, v1, v2] h Q := w_const1 dL_nights_590 k_3
theorem s107_591  : wp 107 591 [l0, l1, l2] [v0, v1, v2, v3] h Q ↔ wp 107 594 [l0, l1, l2] [.inl 240, v0, v1, v2, v3] h Q := w_const3 dL_nights_591 k_240 k16_240
theorem s107_594  : wp 107 594 [l0, l1, l2] [.inl x4, .inl x3, .inl x2, .inl x1, .inr (.inl a0)] h Q ↔ wp 106 0 [.inr (.inl a0), .inl x1, .inl x2, .inl x3, .inl x4] [] h (kont 107 597 [l0, l1, l2] [] Q) := w_callS (y2 := 106) (kd := 0) (vs := [.inr (.inl a0), .inl x1, .inl x2, .inl x3, .inl x4]) (st := []) dL_nights_594 (by decide +kernel) (by decide) rfl (by decide +kernel) (Nat.le_of_ble_eq_true rfl) (eSm_4 (by simp))
theorem s107_597  : wp 107 597 [l0, l1, l2] [.inl x] h Q ↔ if x = 0 then wp 107 726 [l0, l1, l2] [] h Q else wp 107 600 [l0, l1, l2] [] h Q := w_eq0 dL_nights_597 (by decide)
theorem s107_600 (h0 : a ≠ 0) : wp 107 600 [.inr (.inl a), l1, l2] [] h Q ↔ wp 107 601 [.inr (.inl a), l1, l2] [.inr (.inl a)] h Q := wp_step dL_nights_600 (fun _ => if_neg h0)
theorem s107_601  : wp 107 601 [l0, l1, l2] [v0] h Q ↔ wp 107 603 [l0, l1, l2] [.inl 10, v0] h Q := w_const2 dL_nights_601 k_10 k8_10
theorem s107_603  : wp 107 603 [l0, l1, l2] [.inl x0, .inr (.inl (8 + G.length))] (em G W (hp S D)) Q ↔ wp 89 0 [.inr (.inl (8 + G.length)), .inl x0] [] (em G W (hp S D)) (kont 107 606 [l0, l1, l2] [] Q) := w_callVh (y2 := 89) (vs := [.inl x0]) (st := []) dL_nights_603 (by decide +kernel) rfl (by decide +kernel) (Nat.le_of_ble_eq_true rfl) (eSm_4 (by simp)) 7 rfl em_o rfl (by omega)
theorem s107_606  : wp 107 606 [l0, l1, l2] [v0] h Q ↔ wp 107 607 [l0, l1, l2] [.inl 1, v0] h Q := w_const1 dL_nights_606 k_1
theorem s107_607  : wp 107 607 [l0, l1, l2] [.inl z, .inl x] h Q ↔ if x = z then wp 107 610 [l0, l1, l2] [] h Q else wp 107 726 [l0, l1, l2] [] h Q := w_cne dL_nights_607 (by decide)
theorem s107_610 (h0 : a ≠ 0) : wp 107 610 [.inr (.inl a), l1, l2] [] h Q ↔ wp 107 611 [.inr (.inl a), l1, l2] [.inr (.inl a)] h Q := wp_step dL_nights_610 (fun _ => if_neg h0)
theorem s107_611  : wp 107 611 [l0, l1, l2] [v0] h Q ↔ wp 107 613 [l0, l1, l2] [.inl 11, v0] h Q := w_const2 dL_nights_611 k_11 k8_11
theorem s107_613  : wp 107 613 [l0, l1, l2] [.inl x0, .inr (.inl (8 + G.length))] (em G W (hp S D)) Q ↔ wp 89 0 [.inr (.inl (8 + G.length)), .inl x0] [] (em G W (hp S D)) (kont 107 616 [l0, l1, l2] [] Q) := w_callVh (y2 := 89) (vs := [.inl x0]) (st := []) dL_nights_613 (by decide +kernel) rfl (by decide +kernel) (Nat.le_of_ble_eq_true rfl) (eSm_4 (by simp)) 7 rfl em_o rfl (by omega)
theorem s107_616  : wp 107 616 [l0, l1, l2] [v0] h Q ↔ wp 107 617 [l0, l1, l2] [.inl 1, v0] h Q := w_const1 dL_nights_616 k_1
theorem s107_617  : wp 107 617 [l0, l1, l2] [.inl z, .inl x] h Q ↔ if x = z then wp 107 620 [l0, l1, l2] [] h Q else wp 107 726 [l0, l1, l2] [] h Q := w_cne dL_nights_617 (by decide)
theorem s107_620 (h0 : a ≠ 0) : wp 107 620 [.inr (.inl a), l1, l2] [] h Q ↔ wp 107 621 [.inr (.inl a), l1, l2] [.inr (.inl a)] h Q := wp_step dL_nights_620 (fun _ => if_neg h0)
theorem s107_621  : wp 107 621 [l0, l1, l2] [v0] h Q ↔ wp 107 622 [l0, l1, l2] [.inl 1, v0] h Q := w_const1 dL_nights_621 k_1
theorem s107_622  : wp 107 622 [l0, l1, l2] [.inl x0, .inr (.inl (8 + G.length))] (em G W (hp S D)) Q ↔ wp 89 0 [.inr (.inl (8 + G.length)), .inl x0] [] (em G W (hp S D)) (kont 107 625 [l0, l1, l2] [] Q) := w_callVh (y2 := 89) (vs := [.inl x0]) (st := []) dL_nights_622 (by decide +kernel) rfl (by decide +kernel) (Nat.le_of_ble_eq_true rfl) (eSm_4 (by simp)) 7 rfl em_o rfl (by omega)
theorem s107_625  : wp 107 625 [l0, l1, l2] [v0] h Q ↔ wp 107 626 [l0, l1, l2] [.inl 3, v0] h Q := w_const1 dL_nights_625 k_3
theorem s107_626  : wp 107 626 [l0, l1, l2] [.inl z, .inl x] h Q ↔ if x = z then wp 107 629 [l0, l1, l2] [] h Q else wp 107 726 [l0, l1, l2] [] h Q := w_cne dL_nights_626 (by decide)
theorem s107_629 (h0 : a ≠ 0) : wp 107 629 [.inr (.inl a), l1, l2] [] h Q ↔ wp 107 630 [.inr (.inl a), l1, l2] [.inr (.inl a)] h Q := wp_step dL_nights_629 (fun _ => if_neg h0)
theorem s107_630  : wp 107 630 [l0, l1, l2] [v0] h Q ↔ wp 107 631 [l0, l1, l2] [.inl 5, v0] h Q := w_const1 dL_nights_630 k_5
theorem s107_631  : wp 107 631 [l0, l1, l2] [.inl x0, .inr (.inl (8 + G.length))] (em G W (hp S D)) Q ↔ wp 89 0 [.inr (.inl (8 + G.length)), .inl x0] [] (em G W (hp S D)) (kont 107 634 [l0, l1, l2] [] Q) := w_callVh (y2 := 89) (vs := [.inl x0]) (st := []) dL_nights_631 (by decide +kernel) rfl (by decide +kernel) (Nat.le_of_ble_eq_true rfl) (eSm_4 (by simp)) 7 rfl em_o rfl (by omega)
theorem s107_634  : wp 107 634 [l0, l1, l2] [.inl x] h Q ↔ if x = 0 then wp 107 637 [l0, l1, l2] [] h Q else wp 107 726 [l0, l1, l2] [] h Q := w_ne0 dL_nights_634 (by decide)
theorem s107_637 (h0 : a ≠ 0) : wp 107 637 [.inr (.inl a), l1, l2] [] h Q ↔ wp 107 638 [.inr (.inl a), l1, l2] [.inr (.inl a)] h Q := wp_step dL_nights_637 (fun _ => if_neg h0)
theorem s107_638  : wp 107 638 [l0, l1, l2] [v0] h Q ↔ wp 107 640 [l0, l1, l2] [.inl 9, v0] h Q := w_const2 dL_nights_638 k_9 k8_9
theorem s107_640  : wp 107 640 [l0, l1, l2] [.inl x0, .inr (.inl (8 + G.length))] (em G W (hp S D)) Q ↔ wp 89 0 [.inr (.inl (8 + G.length)), .inl x0] [] (em G W (hp S D)) (kont 107 643 [l0, l1, l2] [] Q) := w_callVh (y2 := 89) (vs := [.inl x0]) (st := []) dL_nights_640 (by decide +kernel) rfl (by decide +kernel) (Nat.le_of_ble_eq_true rfl) (eSm_4 (by simp)) 7 rfl em_o rfl (by omega)
theorem s107_643  : wp 107 643 [l0, l1, l2] [v0] h Q ↔ wp 107 644 [l0, l1, l2] [.inl 3, v0] h Q := w_const1 dL_nights_643 k_3
theorem s107_644  : wp 107 644 [l0, l1, l2] [.inl z, .inl x] h Q ↔ if x = z then wp 107 647 [l0, l1, l2] [] h Q else wp 107 726 [l0, l1, l2] [] h Q := w_cne dL_nights_644 (by decide)
theorem s107_647 (h0 : a ≠ 0) : wp 107 647 [.inr (.inl a), l1, l2] [] h Q ↔ wp 107 648 [.inr (.inl a), l1, l2] [.inr (.inl a)] h Q := wp_step dL_nights_647 (fun _ => if_neg h0)
theorem s107_648  : wp 107 648 [l0, l1, l2] [v0] h Q ↔ wp 107 649 [l0, l1, l2] [.inl 1, v0] h Q := w_const1 dL_nights_648 k_1
theorem s107_649  : wp 107 649 [l0, l1, l2] [.inl x0, .inr (.inl (8 + G.length))] (em G W (hp S D)) Q ↔ wp 76 0 [.inr (.inl (8 + G.length)), .inl x0, .inr (.inl 0), .inr (.inl 0)] [] (em G W (hp S D)) (kont 107 652 [l0, l1, l2] [] Q) := w_callVh (y2 := 76) (vs := [.inl x0]) (st := []) dL_nights_649 (by decide +kernel) rfl (by decide +kernel) (Nat.le_of_ble_eq_true rfl) (eSm_4 (by simp)) 7 rfl em_o rfl (by omega)
theorem s107_652  : wp 107 652 [l0, l1, l2] [.inl x] h Q ↔ if x = 0 then wp 107 655 [l0, l1, l2] [] h Q else wp 107 726 [l0, l1, l2] [] h Q := w_ne0 dL_nights_652 (by decide)
theorem s107_655 (h0 : a ≠ 0) : wp 107 655 [.inr (.inl a), l1, l2] [] h Q ↔ wp 107 656 [.inr (.inl a), l1, l2] [.inr (.inl a)] h Q := wp_step dL_nights_655 (fun _ => if_neg h0)
theorem s107_656  : wp 107 656 [l0, l1, l2] [v0] h Q ↔ wp 107 657 [l0, l1, l2] [.inl 2, v0] h Q := w_const1 dL_nights_656 k_2
theorem s107_657  : wp 107 657 [l0, l1, l2] [v0, v1] h Q ↔ wp 107 658 [l0, l1, l2] [.inl 2, v0, v1] h Q := w_const1 dL_nights_657 k_2
theorem s107_658  : wp 107 658 [l0, l1, l2] [.inl x1, .inl x0, .inr (.inl (8 + G.length))] (em G W (hp S D)) Q ↔ wp 82 0 [.inr (.inl (8 + G.length)), .inl x0, .inl x1, .inr (.inl 0)] [] (em G W (hp S D)) (kont 107 661 [l0, l1, l2] [] Q) := w_callVh (y2 := 82) (vs := [.inl x0, .inl x1]) (st := []) dL_nights_658 (by decide +kernel) rfl (by decide +kernel) (Nat.le_of_ble_eq_true rfl) (eSm_4 (by simp)) 7 rfl em_o rfl (by omega)
theorem s107_661  : wp 107 661 [l0, l1, l2] [v0] h Q ↔ wp 107 663 [l0, l1, l2] [.inl 16, v0] h Q := w_const2 dL_nights_661 k_16 k8_16
theorem s107_663  : wp 107 663 [l0, l1, l2] [.inl z, .inl x] h Q ↔ if x = z then wp 107 666 [l0, l1, l2] [] h Q else wp 107 726 [l0, l1, l2] [] h Q := w_cne dL_nights_663 (by decide)
theorem s107_666 (h0 : a ≠ 0) : wp 107 666 [.inr (.inl a), l1, l2] [] h Q ↔ wp 107 667 [.inr (.inl a), l1, l2] [.inr (.inl a)] h Q := wp_step dL_nights_666 (fun _ => if_neg h0)
theorem s107_667  : wp 107 667 [l0, l1, l2] [v0] h Q ↔ wp 107 668 [l0, l1, l2] [.inl 2, v0] h Q := w_const1 dL_nights_667 k_2
theorem s107_668  : wp 107 668 [l0, l1, l2] [v0, v1] h Q ↔ wp 107 669 [l0, l1, l2] [.inl 3, v0, v1] h Q := w_const1 dL_nights_668 k_3
theorem s107_669  : wp 107 669 [l0, l1, l2] [.inl x1, .inl x0, .inr (.inl (8 + G.length))] (em G W (hp S D)) Q ↔ wp 82 0 [.inr (.inl (8 + G.length)), .inl x0, .inl x1, .inr (.inl 0)] [] (em G W (hp S D)) (kont 107 672 [l0, l1, l2] [] Q) := w_callVh (y2 := 82) (vs := [.inl x0, .inl x1]) (st := []) dL_nights_669 (by decide +kernel) rfl (by decide +kernel) (Nat.le_of_ble_eq_true rfl) (eSm_4 (by simp)) 7 rfl em_o rfl (by omega)
theorem s107_672  : wp 107 672 [l0, l1, l2] [v0] h Q ↔ wp 107 675 [l0, l1, l2] [.inl 700, v0] h Q := w_const3 dL_nights_672 k_700 k16_700
theorem s107_675  : wp 107 675 [l0, l1, l2] [.inl z, .inl x] h Q ↔ if x = z then wp 107 678 [l0, l1, l2] [] h Q else wp 107 726 [l0, l1, l2] [] h Q := w_cne dL_nights_675 (by decide)
theorem s107_678 (h0 : a ≠ 0) : wp 107 678 [.inr (.inl a), l1, l2] [] h Q ↔ wp 107 679 [.inr (.inl a), l1, l2] [.inr (.inl a)] h Q := wp_step dL_nights_678 (fun _ => if_neg h0)
theorem s107_679  : wp 107 679 [l0, l1, l2] [v0] h Q ↔ wp 107 680 [l0, l1, l2] [.inl 2, v0] h Q := w_const1 dL_nights_679 k_2
theorem s107_680  : wp 107 680 [l0, l1, l2] [v0, v1] h Q ↔ wp 107 681 [l0, l1, l2] [.inl 4, v0, v1] h Q := w_const1 dL_nights_680 k_4
theorem s107_681  : wp 107 681 [l0, l1, l2] [.inl x1, .inl x0, .inr (.inl (8 + G.length))] (em G W (hp S D)) Q ↔ wp 82 0 [.inr (.inl (8 + G.length)), .inl x0, .inl x1, .inr (.inl 0)] [] (em G W (hp S D)) (kont 107 684 [l0, l1, l2] [] Q) := w_callVh (y2 := 82) (vs := [.inl x0, .inl x1]) (st := []) dL_nights_681 (by decide +kernel) rfl (by decide +kernel) (Nat.le_of_ble_eq_true rfl) (eSm_4 (by simp)) 7 rfl em_o rfl (by omega)
theorem s107_684  : wp 107 684 [l0, l1, l2] [v0] h Q ↔ wp 107 687 [l0, l1, l2] [.inl 1392, v0] h Q := w_const3 dL_nights_684 k_1392 k16_1392
theorem s107_687  : wp 107 687 [l0, l1, l2] [.inl z, .inl x] h Q ↔ if x = z then wp 107 690 [l0, l1, l2] [] h Q else wp 107 726 [l0, l1, l2] [] h Q := w_cne dL_nights_687 (by decide)
theorem s107_690 (h0 : a ≠ 0) : wp 107 690 [.inr (.inl a), l1, l2] [] h Q ↔ wp 107 691 [.inr (.inl a), l1, l2] [.inr (.inl a)] h Q := wp_step dL_nights_690 (fun _ => if_neg h0)
theorem s107_691  : wp 107 691 [l0, l1, l2] [v0] h Q ↔ wp 107 692 [l0, l1, l2] [.inl 0, v0] h Q := w_const1 dL_nights_691 k_0
theorem s107_692  : wp 107 692 [l0, l1, l2] [.inl x0, .inr (.inl (8 + G.length))] (em G W (hp S D)) Q ↔ wp 86 0 [.inr (.inl (8 + G.length)), .inl x0] [] (em G W (hp S D)) (kont 107 695 [l0, l1, l2] [] Q) := w_callVh (y2 := 86) (vs := [.inl x0]) (st := []) dL_nights_692 (by decide +kernel) rfl (by decide +kernel) (Nat.le_of_ble_eq_true rfl) (eSm_4 (by simp)) 7 rfl em_o rfl (by omega)
theorem s107_695  : wp 107 695 [l0, l1, l2] [.inl x] h Q ↔ if x = 0 then wp 107 698 [l0, l1, l2] [] h Q else wp 107 726 [l0, l1, l2] [] h Q := w_ne0 dL_nights_695 (by decide)
theorem s107_698 (h0 : a ≠ 0) : wp 107 698 [.inr (.inl a), l1, l2] [] h Q ↔ wp 107 699 [.inr (.inl a), l1, l2] [.inr (.inl a)] h Q := wp_step dL_nights_698 (fun _ => if_neg h0)
theorem s107_699  : wp 107 699 [l0, l1, l2] [v0] h Q ↔ wp 107 700 [l0, l1, l2] [.inl 1, v0] h Q := w_const1 dL_nights_699 k_1
theorem s107_700  : wp 107 700 [l0, l1, l2] [.inl x0, .inr (.inl (8 + G.length))] (em G W (hp S D)) Q ↔ wp 86 0 [.inr (.inl (8 + G.length)), .inl x0] [] (em G W (hp S D)) (kont 107 703 [l0, l1, l2] [] Q) := w_callVh (y2 := 86) (vs := [.inl x0]) (st := []) dL_nights_700 (by decide +kernel) rfl (by decide +kernel) (Nat.le_of_ble_eq_true rfl) (eSm_4 (by simp)) 7 rfl em_o rfl (by omega)
theorem s107_703  : wp 107 703 [l0, l1, l2] [v0] h Q ↔ wp 107 704 [l0, l1, l2] [.inl 1, v0] h Q := w_const1 dL_nights_703 k_1
theorem s107_704  : wp 107 704 [l0, l1, l2] [.inl z, .inl x] h Q ↔ if x = z then wp 107 707 [l0, l1, l2] [] h Q else wp 107 726 [l0, l1, l2] [] h Q := w_cne dL_nights_704 (by decide)
theorem s107_707 (h0 : a ≠ 0) : wp 107 707 [.inr (.inl a), l1, l2] [] h Q ↔ wp 107 708 [.inr (.inl a), l1, l2] [.inr (.inl a)] h Q := wp_step dL_nights_707 (fun _ => if_neg h0)
theorem s107_708  : wp 107 708 [l0, l1, l2] [v0] h Q ↔ wp 107 709 [l0, l1, l2] [.inl 2, v0] h Q := w_const1 dL_nights_708 k_2
theorem s107_709  : wp 107 709 [l0, l1, l2] [.inl x0, .inr (.inl (8 + G.length))] (em G W (hp S D)) Q ↔ wp 86 0 [.inr (.inl (8 + G.length)), .inl x0] [] (em G W (hp S D)) (kont 107 712 [l0, l1, l2] [] Q) := w_callVh (y2 := 86) (vs := [.inl x0]) (st := []) dL_nights_709 (by decide +kernel) rfl (by decide +kernel) (Nat.le_of_ble_eq_true rfl) (eSm_4 (by simp)) 7 rfl em_o rfl (by omega)
theorem s107_712  : wp 107 712 [l0, l1, l2] [v0] h Q ↔ wp 107 713 [l0, l1, l2] [.inl 2, v0] h Q := w_const1 dL_nights_712 k_2
theorem s107_713  : wp 107 713 [l0, l1, l2] [.inl z, .inl x] h Q ↔ if x = z then wp 107 716 [l0, l1, l2] [] h Q else wp 107 726 [l0, l1, l2] [] h Q := w_cne dL_nights_713 (by decide)
theorem s107_716 (h0 : a ≠ 0) : wp 107 716 [.inr (.inl a), l1, l2] [] h Q ↔ wp 107 717 [.inr (.inl a), l1, l2] [.inr (.inl a)] h Q := wp_step dL_nights_716 (fun _ => if_neg h0)
theorem s107_717  : wp 107 717 [l0, l1, l2] [v0] h Q ↔ wp 107 718 [l0, l1, l2] [.inl 3, v0] h Q := w_const1 dL_nights_717 k_3
theorem s107_718  : wp 107 718 [l0, l1, l2] [.inl x0, .inr (.inl (8 + G.length))] (em G W (hp S D)) Q ↔ wp 86 0 [.inr (.inl (8 + G.length)), .inl x0] [] (em G W (hp S D)) (kont 107 721 [l0, l1, l2] [] Q) := w_callVh (y2 := 86) (vs := [.inl x0]) (st := []) dL_nights_718 (by decide +kernel) rfl (by decide +kernel) (Nat.le_of_ble_eq_true rfl) (eSm_4 (by simp)) 7 rfl em_o rfl (by omega)
theorem s107_721  : wp 107 721 [l0, l1, l2] [v0] h Q ↔ wp 107 723 [l0, l1, l2] [.inl (-5), v0] h Q := w_const2 dL_nights_721 k_m5 k8_m5
theorem s107_723  : wp 107 723 [l0, l1, l2] [.inl z, .inl x] h Q ↔ if x = z then wp 107 728 [l0, l1, l2] [] h Q else wp 107 726 [l0, l1, l2] [] h Q := w_ceq dL_nights_723 (by decide)
theorem s107_726  : wp 107 726 [l0, l1, l2] [] h Q ↔ wp 107 727 [l0, l1, l2] [.inl 0] h Q := w_const1 dL_nights_726 k_0
theorem s107_727 (h0 : x = 0 ∨ x = 1) : wp 107 727 [l0, l1, l2] [.inl x] h Q ↔ Q (some (.inl x)) h := w_reti dL_nights_727 (e_rz (by decide +kernel) h0)
theorem s107_728 (h0 : a ≠ 0) : wp 107 728 [.inr (.inl a), l1, l2] [] h Q ↔ wp 107 729 [.inr (.inl a), l1, l2] [.inr (.inl a)] h Q := wp_step dL_nights_728 (fun _ => if_neg h0)
theorem s107_729  : wp 107 729 [l0, l1, l2] [v0] h Q ↔ wp 107 730 [l0, l1, l2] [.inl 0, v0] h Q := w_const1 dL_nights_729 k_0
theorem s107_730  : wp 107 730 [l0, l1, l2] [.inl x0, .inr (.inl (8 + G.length))] (em G W (hp S D)) Q ↔ wp 72 0 [.inr (.inl (8 + G.length)), .inl x0] [] (em G W (hp S D)) (kont 107 733 [l0, l1, l2] [] Q) := w_callVh (y2 := 72) (vs := [.inl x0]) (st := []) dL_nights_730 (by decide +kernel) rfl (by decide +kernel) (Nat.le_of_ble_eq_true rfl) (eSm_4 (by simp)) 7 rfl em_o rfl (by omega)
theorem s107_733  : wp 107 733 [l0, l1, l2] [v0] h Q ↔ wp 107 735 [l0, l1, l2] [.inl 8, v0] h Q := w_const2 dL_nights_733 k_8 k8_8
theorem s107_735  : wp 107 735 [l0, l1, l2] [.inl z, .inl x] h Q ↔ if x = z then wp 107 738 [l0, l1, l2] [] h Q else wp 107 792 [l0, l1, l2] [] h Q := w_cne dL_nights_735 (by decide)
theorem s107_738 (h0 : a ≠ 0) : wp 107 738 [.inr (.inl a), l1, l2] [] h Q ↔ wp 107 739 [.inr (.inl a), l1, l2] [.inr (.inl a)] h Q := wp_step dL_nights_738 (fun _ => if_neg h0)
theorem s107_739  : wp 107 739 [l0, l1, l2] [v0] h Q ↔ wp 107 740 [l0, l1, l2] [.inl 3, v0] h Q := w_const1 dL_nights_739 k_3
theorem s107_740  : wp 107 740 [l0, l1, l2] [.inl x0, .inr (.inl (8 + G.length))] (em G W (hp S D)) Q ↔ wp 83 0 [.inr (.inl (8 + G.length)), .inl x0] [] (em G W (hp S D)) (kont 107 743 [l0, l1, l2] [] Q) := w_callVh (y2 := 83) (vs := [.inl x0]) (st := []) dL_nights_740 (by decide +kernel) rfl (by decide +kernel) (Nat.le_of_ble_eq_true rfl) (eSm_4 (by simp)) 7 rfl em_o rfl (by omega)
theorem s107_743  : wp 107 743 [l0, l1, l2] [.inl x] h Q ↔ if x = 0 then wp 107 746 [l0, l1, l2] [] h Q else wp 107 792 [l0, l1, l2] [] h Q := w_ne0 dL_nights_743 (by decide)
theorem s107_746 (h0 : a ≠ 0) : wp 107 746 [.inr (.inl a), l1, l2] [] h Q ↔ wp 107 747 [.inr (.inl a), l1, l2] [.inr (.inl a)] h Q := wp_step dL_nights_746 (fun _ => if_neg h0)
theorem s107_747  : wp 107 747 [l0, l1, l2] [v0] h Q ↔ wp 107 748 [l0, l1, l2] [.inl 1, v0] h Q := w_const1 dL_nights_747 k_1
theorem s107_748  : wp 107 748 [l0, l1, l2] [.inl x0, .inr (.inl (8 + G.length))] (em G W (hp S D)) Q ↔ wp 76 0 [.inr (.inl (8 + G.length)), .inl x0, .inr (.inl 0), .inr (.inl 0)] [] (em G W (hp S D)) (kont 107 751 [l0, l1, l2] [] Q) := w_callVh (y2 := 76) (vs := [.inl x0]) (st := []) dL_nights_748 (by decide +kernel) rfl (by decide +kernel) (Nat.le_of_ble_eq_true rfl) (eSm_4 (by simp)) 7 rfl em_o rfl (by omega)
theorem s107_751  : wp 107 751 [l0, l1, l2] [v0] h Q ↔ wp 107 752 [l0, l1, l2] [.inl 1, v0] h Q := w_const1 dL_nights_751 k_1
theorem s107_752  : wp 107 752 [l0, l1, l2] [.inl z, .inl x] h Q ↔ if x = z then wp 107 755 [l0, l1, l2] [] h Q else wp 107 792 [l0, l1, l2] [] h Q := w_cne dL_nights_752 (by decide)
theorem s107_755 (h0 : a ≠ 0) : wp 107 755 [.inr (.inl a), l1, l2] [] h Q ↔ wp 107 756 [.inr (.inl a), l1, l2] [.inr (.inl a)] h Q := wp_step dL_nights_755 (fun _ => if_neg h0)
theorem s107_756  : wp 107 756 [l0, l1, l2] [v0] h Q ↔ wp 107 757 [l0, l1, l2] [.inl 3, v0] h Q := w_const1 dL_nights_756 k_3
theorem s107_757  : wp 107 757 [l0, l1, l2] [.inl x0, .inr (.inl (8 + G.length))] (em G W (hp S D)) Q ↔ wp 72 0 [.inr (.inl (8 + G.length)), .inl x0] [] (em G W (hp S D)) (kont 107 760 [l0, l1, l2] [] Q) := w_callVh (y2 := 72) (vs := [.inl x0]) (st := []) dL_nights_757 (by decide +kernel) rfl (by decide +kernel) (Nat.le_of_ble_eq_true rfl) (eSm_4 (by simp)) 7 rfl em_o rfl (by omega)
theorem s107_760  : wp 107 760 [l0, l1, l2] [v0] h Q ↔ wp 107 762 [l0, l1, l2] [.inl (-4), v0] h Q := w_const2 dL_nights_760 k_m4 k8_m4
theorem s107_762  : wp 107 762 [l0, l1, l2] [.inl z, .inl x] h Q ↔ if x = z then wp 107 765 [l0, l1, l2] [] h Q else wp 107 792 [l0, l1, l2] [] h Q := w_cne dL_nights_762 (by decide)
theorem s107_765 (h0 : a ≠ 0) : wp 107 765 [.inr (.inl a), l1, l2] [] h Q ↔ wp 107 766 [.inr (.inl a), l1, l2] [.inr (.inl a)] h Q := wp_step dL_nights_765 (fun _ => if_neg h0)
theorem s107_766  : wp 107 766 [l0, l1, l2] [v0] h Q ↔ wp 107 767 [l0, l1, l2] [.inl 2, v0] h Q := w_const1 dL_nights_766 k_2
theorem s107_767  : wp 107 767 [l0, l1, l2] [v0, v1] h Q ↔ wp 107 768 [l0, l1, l2] [.inl 5, v0, v1] h Q := w_const1 dL_nights_767 k_5
theorem s107_768  : wp 107 768 [l0, l1, l2] [.inl x1, .inl x0, .inr (.inl (8 + G.length))] (em G W (hp S D)) Q ↔ wp 68 0 [.inr (.inl (8 + G.length)), .inl x0, .inl x1, .inr (.inl 0)] [] (em G W (hp S D)) (kont 107 771 [l0, l1, l2] [] Q) := w_callVh (y2 := 68) (vs := [.inl x0, .inl x1]) (st := []) dL_nights_768 (by decide +kernel) rfl (by decide +kernel) (Nat.le_of_ble_eq_true rfl) (eSm_4 (by simp)) 7 rfl em_o rfl (by omega)
theorem s107_771  : wp 107 771 [l0, l1, l2] [v0] h Q ↔ wp 107 772 [l0, l1, l2] [.inl 2, v0] h Q := w_const1 dL_nights_771 k_2
theorem s107_772  : wp 107 772 [l0, l1, l2] [.inl z, .inl x] h Q ↔ if x = z then wp 107 775 [l0, l1, l2] [] h Q else wp 107 792 [l0, l1, l2] [] h Q := w_cne dL_nights_772 (by decide)
theorem s107_775 (h0 : a ≠ 0) : wp 107 775 [.inr (.inl a), l1, l2] [] h Q ↔ wp 107 776 [.inr (.inl a), l1, l2] [.inr (.inl a)] h Q := wp_step dL_nights_775 (fun _ => if_neg h0)
theorem s107_776  : wp 107 776 [l0, l1, l2] [v0] h Q ↔ wp 107 777 [l0, l1, l2] [.inl 2, v0] h Q := w_const1 dL_nights_776 k_2
theorem s107_777  : wp 107 777 [l0, l1, l2] [.inl x0, .inr (.inl (8 + G.length))] (em G W (hp S D)) Q ↔ wp 83 0 [.inr (.inl (8 + G.length)), .inl x0] [] (em G W (hp S D)) (kont 107 780 [l0, l1, l2] [] Q) := w_callVh (y2 := 83) (vs := [.inl x0]) (st := []) dL_nights_777 (by decide +kernel) rfl (by decide +kernel) (Nat.le_of_ble_eq_true rfl) (eSm_4 (by simp)) 7 rfl em_o rfl (by omega)
theorem s107_780  : wp 107 780 [l0, l1, l2] [v0] h Q ↔ wp 107 782 [l0, l1, l2] [.inl 7, v0] h Q := w_const2 dL_nights_780 k_7 k8_7
theorem s107_782  : wp 107 782 [l0, l1, l2] [.inl z, .inl x] h Q ↔ if x = z then wp 107 785 [l0, l1, l2] [] h Q else wp 107 792 [l0, l1, l2] [] h Q := w_cne dL_nights_782 (by decide)
theorem s107_785 (h0 : a ≠ 0) : wp 107 785 [.inr (.inl a), l1, l2] [] h Q ↔ wp 107 786 [.inr (.inl a), l1, l2] [.inr (.inl a)] h Q := wp_step dL_nights_785 (fun _ => if_neg h0)
theorem s107_786  : wp 107 786 [l0, l1, l2] [.inr (.inl a0)] h Q ↔ wp 105 0 [.inr (.inl a0), .inr (.inl 0), .inr (.inl 0), .inr (.inl 0)] [] h (kont 107 789 [l0, l1, l2] [] Q) := w_callS (y2 := 105) (kd := 0) (vs := [.inr (.inl a0)]) (st := []) dL_nights_786 (by decide +kernel) (by decide) rfl (by decide +kernel) (Nat.le_of_ble_eq_true rfl) (eSm_4 (by simp))
theorem s107_789  : wp 107 789 [l0, l1, l2] [.inl x] h Q ↔ if x = 0 then wp 107 792 [l0, l1, l2] [] h Q else wp 107 794 [l0, l1, l2] [] h Q := w_ne0 dL_nights_789 (by decide)
theorem s107_792  : wp 107 792 [l0, l1, l2] [] h Q ↔ wp 107 793 [l0, l1, l2] [.inl 0] h Q := w_const1 dL_nights_792 k_0
theorem s107_793 (h0 : x = 0 ∨ x = 1) : wp 107 793 [l0, l1, l2] [.inl x] h Q ↔ Q (some (.inl x)) h := w_reti dL_nights_793 (e_rz (by decide +kernel) h0)
theorem s107_794  : wp 107 794 [l0, l1, l2] [] (em G [] (hS S)) Q ↔ wp 107 797 [l0, l1, l2] [.inr (.inl (8 + G.length))] (em G [] (hS S ++ [(7, eDv.getD 7 [])])) Q := w_newo dL_nights_794 (by decide +kernel)
theorem s107_797  : wp 107 797 [l0, l1, l2] [.inr (.inl a0)] h Q ↔ wp 107 798 [l0, l1, l2] [.inr (.inl a0), .inr (.inl a0)] h Q := wp_step dL_nights_797 (fun _ => rfl)
theorem s107_798 (h8 : 8 ≤ a) : wp 107 798 [l0, l1, l2] [.inr (.inl a), v0] h Q ↔ wp 67 0 [.inr (.inl a)] [] h (kont 107 801 [l0, l1, l2] [v0] Q) := w_callI (y2 := 67) (vs := []) (st := [v0]) dL_nights_798 (by decide +kernel) rfl (by decide +kernel) (Nat.le_of_ble_eq_true rfl) (eSm_4 (by simp)) h8
theorem s107_801 (h0 : a ≠ 0) : wp 107 801 [l0, l1, l2] [.inr (.inl a)] h Q ↔ wp 107 802 [l0, .inr (.inl a), l2] [] h Q := wp_step dL_nights_801 (fun _ => (if_neg h0).trans rfl)
theorem s107_802  : wp 107 802 [l0, l1, l2] [] h Q ↔ wp 107 803 [l0, l1, l2] [.inl 0] h Q := w_const1 dL_nights_802 k_0
theorem s107_803  : wp 107 803 [l0, l1, l2] [.inl x] h Q ↔ wp 107 804 [l0, l1, .inl x] [] h Q := wp_step dL_nights_803 (fun _ => rfl)
theorem s107_804  : wp 107 804 [l0, l1, .inl x] [] h Q ↔ wp 107 805 [l0, l1, .inl x] [.inl x] h Q := wp_step dL_nights_804 (fun _ => rfl)
theorem s107_805  : wp 107 805 [l0, l1, l2] [v0] h Q ↔ wp 107 807 [l0, l1, l2] [.inl 16, v0] h Q := w_const2 dL_nights_805 k_16 k8_16
theorem s107_807  : wp 107 807 [l0, l1, l2] [.inl z, .inl x] h Q ↔ if x < z then wp 107 810 [l0, l1, l2] [] h Q else wp 107 835 [l0, l1, l2] [] h Q := w_cge dL_nights_807 (by decide)
theorem s107_810 (h0 : a ≠ 0) : wp 107 810 [l0, .inr (.inl a), l2] [] h Q ↔ wp 107 811 [l0, .inr (.inl a), l2] [.inr (.inl a)] h Q := wp_step dL_nights_810 (fun _ => if_neg h0)
theorem s107_811  : wp 107 811 [l0, l1, l2] [v0] h Q ↔ wp 107 812 [l0, l1, l2] [.inl 2, v0] h Q := w_const1 dL_nights_811 k_2
theorem s107_812  : wp 107 812 [l0, l1, l2] [v0, v1] h Q ↔ wp 107 814 [l0, l1, l2] [.inl 6, v0, v1] h Q := w_const2 dL_nights_812 k_6 k8_6
theorem s107_814  : wp 107 814 [l0, l1, l2] [.inl x1, .inl x0, .inr (.inl (8 + G.length))] (em G W (hp S D)) Q ↔ wp 73 0 [.inr (.inl (8 + G.length)), .inl x0, .inl x1, .inr (.inl 0)] [] (em G W (hp S D)) (kont 107 817 [l0, l1, l2] [] Q) := w_callVh (y2 := 73) (vs := [.inl x0, .inl x1]) (st := []) dL_nights_814 (by decide +kernel) rfl (by decide +kernel) (Nat.le_of_ble_eq_true rfl) (eSm_4 (by simp)) 7 rfl em_o rfl (by omega)
theorem s107_817  : wp 107 817 [l0, l1, l2] [v0] h Q ↔ wp 107 819 [l0, l1, l2] [.inl 6, v0] h Q := w_const2 dL_nights_817 k_6 k8_6
theorem s107_819  : wp 107 819 [l0, l1, .inl x] [v0, v1] h Q ↔ wp 107 820 [l0, l1, .inl x] [.inl x, v0, v1] h Q := wp_step dL_nights_819 (fun _ => rfl)
theorem s107_820  : wp 107 820 [l0, l1, l2] [.inl z, .inl x, v0] h Q ↔ wp 107 821 [l0, l1, l2] [.inl (w32 (x * z)), v0] h Q := wp_step dL_nights_820 (fun _ => rfl)
theorem s107_821  : wp 107 821 [l0, l1, l2] [v0, v1] h Q ↔ wp 107 823 [l0, l1, l2] [.inl 6, v0, v1] h Q := w_const2 dL_nights_821 k_6 k8_6
theorem s107_823  : wp 107 823 [l0, l1, l2] [.inl z, .inl x, v0] h Q ↔ wp 107 824 [l0, l1, l2] [.inl (w32 (x + z)), v0] h Q := wp_step dL_nights_823 (fun _ => rfl)
theorem s107_824  : wp 107 824 [l0, l1, l2] [.inl z, .inl x] h Q ↔ if x = z then wp 107 829 [l0, l1, l2] [] h Q else wp 107 827 [l0, l1, l2] [] h Q := w_ceq dL_nights_824 (by decide)
theorem s107_827  : wp 107 827 [l0, l1, l2] [] h Q ↔ wp 107 828 [l0, l1, l2] [.inl 0] h Q := w_const1 dL_nights_827 k_0
theorem s107_828 (h0 : x = 0 ∨ x = 1) : wp 107 828 [l0, l1, l2] [.inl x] h Q ↔ Q (some (.inl x)) h := w_reti dL_nights_828 (e_rz (by decide +kernel) h0)
theorem s107_829  : wp 107 829 [l0, l1, .inl x] [] h Q ↔ wp 107 832 [l0, l1, .inl (w32 (x + 1))] [] h Q := wp_step dL_nights_829 (fun _ => rfl)
theorem s107_832  : wp 107 832 [l0, l1, l2] [] h Q ↔ wp 107 804 [l0, l1, l2] [] h Q := w_goto dL_nights_832 (by decide)
theorem s107_835 (h0 : a ≠ 0) : wp 107 835 [l0, .inr (.inl a), l2] [] h Q ↔ wp 107 836 [l0, .inr (.inl a), l2] [.inr (.inl a)] h Q := wp_step dL_nights_835 (fun _ => if_neg h0)
theorem s107_836  : wp 107 836 [l0, l1, l2] [v0] h Q ↔ wp 107 837 [l0, l1, l2] [.inl 2, v0] h Q := w_const1 dL_nights_836 k_2
theorem s107_837  : wp 107 837 [l0, l1, l2] [v0, v1] h Q ↔ wp 107 838 [l0, l1, l2] [.inl 4, v0, v1] h Q := w_const1 dL_nights_837 k_4
theorem s107_838  : wp 107 838 [l0, l1, l2] [.inl x1, .inl x0, .inr (.inl (8 + G.length))] (em G W (hp S D)) Q ↔ wp 73 0 [.inr (.inl (8 + G.length)), .inl x0, .inl x1, .inr (.inl 0)] [] (em G W (hp S D)) (kont 107 841 [l0, l1, l2] [] Q) := w_callVh (y2 := 73) (vs := [.inl x0, .inl x1]) (st := []) dL_nights_838 (by decide +kernel) rfl (by decide +kernel) (Nat.le_of_ble_eq_true rfl) (eSm_4 (by simp)) 7 rfl em_o rfl (by omega)
theorem s107_841  : wp 107 841 [l0, l1, l2] [v0] h Q ↔ wp 107 843 [l0, l1, l2] [.inl (-3), v0] h Q := w_const2 dL_nights_841 k_m3 k8_m3
theorem s107_843  : wp 107 843 [l0, l1, l2] [.inl z, .inl x] h Q ↔ if x = z then wp 107 846 [l0, l1, l2] [] h Q else wp 107 882 [l0, l1, l2] [] h Q := w_cne dL_nights_843 (by decide)
theorem s107_846 (h0 : a ≠ 0) : wp 107 846 [l0, .inr (.inl a), l2] [] h Q ↔ wp 107 847 [l0, .inr (.inl a), l2] [.inr (.inl a)] h Q := wp_step dL_nights_846 (fun _ => if_neg h0)
theorem s107_847  : wp 107 847 [l0, l1, l2] [v0] h Q ↔ wp 107 848 [l0, l1, l2] [.inl 2, v0] h Q := w_const1 dL_nights_847 k_2
theorem s107_848  : wp 107 848 [l0, l1, l2] [v0, v1] h Q ↔ wp 107 849 [l0, l1, l2] [.inl 3, v0, v1] h Q := w_const1 dL_nights_848 k_3
theorem s107_849  : wp 107 849 [l0, l1, l2] [.inl x1, .inl x0, .inr (.inl (8 + G.length))] (em G W (hp S D)) Q ↔ wp 73 0 [.inr (.inl (8 + G.length)), .inl x0, .inl x1, .inr (.inl 0)] [] (em G W (hp S D)) (kont 107 852 [l0, l1, l2] [] Q) := w_callVh (y2 := 73) (vs := [.inl x0, .inl x1]) (st := []) dL_nights_849 (by decide +kernel) rfl (by decide +kernel) (Nat.le_of_ble_eq_true rfl) (eSm_4 (by simp)) 7 rfl em_o rfl (by omega)
theorem s107_852  : wp 107 852 [l0, l1, l2] [v0] h Q ↔ wp 107 854 [l0, l1, l2] [.inl 99, v0] h Q := w_const2 dL_nights_852 k_99 k8_99
theorem s107_854  : wp 107 854 [l0, l1, l2] [.inl z, .inl x] h Q ↔ if x = z then wp 107 857 [l0, l1, l2] [] h Q else wp 107 882 [l0, l1, l2] [] h Q := w_cne dL_nights_854 (by decide)
theorem s107_857 (h0 : a ≠ 0) : wp 107 857 [l0, .inr (.inl a), l2] [] h Q ↔ wp 107 858 [l0, .inr (.inl a), l2] [.inr (.inl a)] h Q := wp_step dL_nights_857 (fun _ => if_neg h0)
theorem s107_858  : wp 107 858 [l0, l1, l2] [v0] h Q ↔ wp 107 859 [l0, l1, l2] [.inl 0, v0] h Q := w_const1 dL_nights_858 k_0
theorem s107_859  : wp 107 859 [l0, l1, l2] [v0, v1] h Q ↔ wp 107 861 [l0, l1, l2] [.inl 24, v0, v1] h Q := w_const2 dL_nights_859 k_24 k8_24
theorem s107_861  : wp 107 861 [l0, l1, l2] [.inl x1, .inl x0, .inr (.inl (8 + G.length))] (em G W (hp S D)) Q ↔ wp 69 0 [.inr (.inl (8 + G.length)), .inl x0, .inl x1] [] (em G W (hp S D)) (kont 107 864 [l0, l1, l2] [] Q) := w_callVh (y2 := 69) (vs := [.inl x0, .inl x1]) (st := []) dL_nights_861 (by decide +kernel) rfl (by decide +kernel) (Nat.le_of_ble_eq_true rfl) (eSm_4 (by simp)) 7 rfl em_o rfl (by omega)
theorem s107_864  : wp 107 864 [l0, l1, l2] [v0] h Q ↔ wp 107 866 [l0, l1, l2] [.inl 24, v0] h Q := w_const2 dL_nights_864 k_24 k8_24
theorem s107_866  : wp 107 866 [l0, l1, l2] [.inl z, .inl x] h Q ↔ if x = z then wp 107 869 [l0, l1, l2] [] h Q else wp 107 882 [l0, l1, l2] [] h Q := w_cne dL_nights_866 (by decide)
theorem s107_869 (h0 : a ≠ 0) : wp 107 869 [l0, .inr (.inl a), l2] [] h Q ↔ wp 107 870 [l0, .inr (.inl a), l2] [.inr (.inl a)] h Q := wp_step dL_nights_869 (fun _ => if_neg h0)
theorem s107_870  : wp 107 870 [l0, l1, l2] [v0] h Q ↔ wp 107 872 [l0, l1, l2] [.inl 40, v0] h Q := w_const2 dL_nights_870 k_40 k8_40
theorem s107_872  : wp 107 872 [l0, l1, l2] [v0, v1] h Q ↔ wp 107 874 [l0, l1, l2] [.inl 8, v0, v1] h Q := w_const2 dL_nights_872 k_8 k8_8
theorem s107_874  : wp 107 874 [l0, l1, l2] [.inl x1, .inl x0, .inr (.inl (8 + G.length))] (em G W (hp S D)) Q ↔ wp 69 0 [.inr (.inl (8 + G.length)), .inl x0, .inl x1] [] (em G W (hp S D)) (kont 107 877 [l0, l1, l2] [] Q) := w_callVh (y2 := 69) (vs := [.inl x0, .inl x1]) (st := []) dL_nights_874 (by decide +kernel) rfl (by decide +kernel) (Nat.le_of_ble_eq_true rfl) (eSm_4 (by simp)) 7 rfl em_o rfl (by omega)
theorem s107_877  : wp 107 877 [l0, l1, l2] [v0] h Q ↔ wp 107 879 [l0, l1, l2] [.inl 16, v0] h Q := w_const2 dL_nights_877 k_16 k8_16
theorem s107_879  : wp 107 879 [l0, l1, l2] [.inl z, .inl x] h Q ↔ if x = z then wp 107 884 [l0, l1, l2] [] h Q else wp 107 882 [l0, l1, l2] [] h Q := w_ceq dL_nights_879 (by decide)
theorem s107_882  : wp 107 882 [l0, l1, l2] [] h Q ↔ wp 107 883 [l0, l1, l2] [.inl 0] h Q := w_const1 dL_nights_882 k_0
theorem s107_883 (h0 : x = 0 ∨ x = 1) : wp 107 883 [l0, l1, l2] [.inl x] h Q ↔ Q (some (.inl x)) h := w_reti dL_nights_883 (e_rz (by decide +kernel) h0)
theorem s107_884  : wp 107 884 [l0, l1, l2] [] h Q ↔ wp 107 885 [l0, l1, l2] [.inl 0] h Q := w_const1 dL_nights_884 k_0
theorem s107_885  : wp 107 885 [l0, l1, l2] [.inl x] h Q ↔ wp 107 886 [l0, l1, .inl x] [] h Q := wp_step dL_nights_885 (fun _ => rfl)
theorem s107_886  : wp 107 886 [l0, l1, .inl x] [] h Q ↔ wp 107 887 [l0, l1, .inl x] [.inl x] h Q := wp_step dL_nights_886 (fun _ => rfl)
theorem s107_887  : wp 107 887 [l0, l1, l2] [v0] h Q ↔ wp 107 889 [l0, l1, l2] [.inl 10, v0] h Q := w_const2 dL_nights_887 k_10 k8_10
theorem s107_889  : wp 107 889 [l0, l1, l2] [.inl z, .inl x] h Q ↔ if x < z then wp 107 892 [l0, l1, l2] [] h Q else wp 107 916 [l0, l1, l2] [] h Q := w_cge dL_nights_889 (by decide)
theorem s107_892 (h0 : a ≠ 0) : wp 107 892 [l0, .inr (.inl a), l2] [] h Q ↔ wp 107 893 [l0, .inr (.inl a), l2] [.inr (.inl a)] h Q := wp_step dL_nights_892 (fun _ => if_neg h0)
theorem s107_893  : wp 107 893 [l0, l1, l2] [v0] h Q ↔ wp 107 895 [l0, l1, l2] [.inl 9, v0] h Q := w_const2 dL_nights_893 k_9 k8_9
theorem s107_895  : wp 107 895 [l0, l1, .inl x] [v0, v1] h Q ↔ wp 107 896 [l0, l1, .inl x] [.inl x, v0, v1] h Q := wp_step dL_nights_895 (fun _ => rfl)
theorem s107_896  : wp 107 896 [l0, l1, l2] [.inl z, .inl x, v0] h Q ↔ wp 107 897 [l0, l1, l2] [.inl (w32 (x - z)), v0] h Q := wp_step dL_nights_896 (fun _ => rfl)
theorem s107_897  : wp 107 897 [l0, l1, l2] [v0, v1] h Q ↔ wp 107 898 [l0, l1, l2] [.inl 0, v0, v1] h Q := w_const1 dL_nights_897 k_0
theorem s107_898  : wp 107 898 [l0, l1, l2] [v0, v1, v2] h Q ↔ wp 107 899 [l0, l1, l2] [.inl 1, v0, v1, v2] h Q := w_const1 dL_nights_898 k_1
theorem s107_899  : wp 107 899 [l0, l1, l2] [.inl x2, .inl x1, .inl x0, .inr (.inl (8 + G.length))] (em G W (hp S D)) Q ↔ wp 74 0 [.inr (.inl (8 + G.length)), .inl x0, .inl x1, .inl x2] [] (em G W (hp S D)) (kont 107 902 [l0, l1, l2] [] Q) := w_callVh (y2 := 74) (vs := [.inl x0, .inl x1, .inl x2]) (st := []) dL_nights_899 (by decide +kernel) rfl (by decide +kernel) (Nat.le_of_ble_eq_true rfl) (eSm_4 (by simp)) 7 rfl em_o rfl (by omega)
theorem s107_902  : wp 107 902 [l0, l1, .inl x] [v0] h Q ↔ wp 107 903 [l0, l1, .inl x] [.inl x, v0] h Q := wp_step dL_nights_902 (fun _ => rfl)
theorem s107_903  : wp 107 903 [l0, l1, l2] [v0, v1] h Q ↔ wp 107 904 [l0, l1, l2] [.inl 1, v0, v1] h Q := w_const1 dL_nights_903 k_1
theorem s107_904  : wp 107 904 [l0, l1, l2] [.inl z, .inl x, v0] h Q ↔ wp 107 905 [l0, l1, l2] [.inl (w32 (x + z)), v0] h Q := wp_step dL_nights_904 (fun _ => rfl)
theorem s107_905  : wp 107 905 [l0, l1, l2] [.inl z, .inl x] h Q ↔ if x = z then wp 107 910 [l0, l1, l2] [] h Q else wp 107 908 [l0, l1, l2] [] h Q := w_ceq dL_nights_905 (by decide)
theorem s107_908  : wp 107 908 [l0, l1, l2] [] h Q ↔ wp 107 909 [l0, l1, l2] [.inl 0] h Q := w_const1 dL_nights_908 k_0
theorem s107_909 (h0 : x = 0 ∨ x = 1) : wp 107 909 [l0, l1, l2] [.inl x] h Q ↔ Q (some (.inl x)) h := w_reti dL_nights_909 (e_rz (by decide +kernel) h0)
theorem s107_910  : wp 107 910 [l0, l1, .inl x] [] h Q ↔ wp 107 913 [l0, l1, .inl (w32 (x + 1))] [] h Q := wp_step dL_nights_910 (fun _ => rfl)
theorem s107_913  : wp 107 913 [l0, l1, l2] [] h Q ↔ wp 107 886 [l0, l1, l2] [] h Q := w_goto dL_nights_913 (by decide)
theorem s107_916 (h0 : a ≠ 0) : wp 107 916 [l0, .inr (.inl a), l2] [] h Q ↔ wp 107 917 [l0, .inr (.inl a), l2] [.inr (.inl a)] h Q := wp_step dL_nights_916 (fun _ => if_neg h0)
theorem s107_917  : wp 107 917 [l0, l1, l2] [v0] h Q ↔ wp 107 919 [l0, l1, l2] [.inl 10, v0] h Q := w_const2 dL_nights_917 k_10 k8_10
theorem s107_919  : wp 107 919 [l0, l1, l2] [v0, v1] h Q ↔ wp 107 920 [l0, l1, l2] [.inl 0, v0, v1] h Q := w_const1 dL_nights_919 k_0
theorem s107_920  : wp 107 920 [l0, l1, l2] [v0, v1, v2] h Q ↔ wp 107 921 [l0, l1, l2] [.inl 1, v0, v1, v2] h Q := w_const1 dL_nights_920 k_1
theorem s107_921  : wp 107 921 [l0, l1, l2] [.inl x2, .inl x1, .inl x0, .inr (.inl (8 + G.length))] (em G W (hp S D)) Q ↔ wp 74 0 [.inr (.inl (8 + G.length)), .inl x0, .inl x1, .inl x2] [] (em G W (hp S D)) (kont 107 924 [l0, l1, l2] [] Q) := w_callVh (y2 := 74) (vs := [.inl x0, .inl x1, .inl x2]) (st := []) dL_nights_921 (by decide +kernel) rfl (by decide +kernel) (Nat.le_of_ble_eq_true rfl) (eSm_4 (by simp)) 7 rfl em_o rfl (by omega)
theorem s107_924  : wp 107 924 [l0, l1, l2] [v0] h Q ↔ wp 107 926 [l0, l1, l2] [.inl (-3), v0] h Q := w_const2 dL_nights_924 k_m3 k8_m3
theorem s107_926  : wp 107 926 [l0, l1, l2] [.inl z, .inl x] h Q ↔ if x = z then wp 107 929 [l0, l1, l2] [] h Q else wp 107 1003 [l0, l1, l2] [] h Q := w_cne dL_nights_926 (by decide)
theorem s107_929 (h0 : a ≠ 0) : wp 107 929 [l0, .inr (.inl a), l2] [] h Q ↔ wp 107 930 [l0, .inr (.inl a), l2] [.inr (.inl a)] h Q := wp_step dL_nights_929 (fun _ => if_neg h0)
theorem s107_930  : wp 107 930 [l0, l1, l2] [v0] h Q ↔ wp 107 931 [l0, l1, l2] [.inl 0, v0] h Q := w_const1 dL_nights_930 k_0
theorem s107_931  : wp 107 931 [l0, l1, l2] [v0, v1] h Q ↔ wp 107 932 [l0, l1, l2] [.inl 2, v0, v1] h Q := w_const1 dL_nights_931 k_2
theorem s107_932  : wp 107 932 [l0, l1, l2] [v0, v1, v2] h Q ↔ wp 107 933 [l0, l1, l2] [.inl 4, v0, v1, v2] h Q := w_const1 dL_nights_932 k_4
theorem s107_933  : wp 107 933 [l0, l1, l2] [.inl x2, .inl x1, .inl x0, .inr (.inl (8 + G.length))] (em G W (hp S D)) Q ↔ wp 74 0 [.inr (.inl (8 + G.length)), .inl x0, .inl x1, .inl x2] [] (em G W (hp S D)) (kont 107 936 [l0, l1, l2] [] Q) := w_callVh (y2 := 74) (vs := [.inl x0, .inl x1, .inl x2]) (st := []) dL_nights_933 (by decide +kernel) rfl (by decide +kernel) (Nat.le_of_ble_eq_true rfl) (eSm_4 (by simp)) 7 rfl em_o rfl (by omega)
theorem s107_936  : wp 107 936 [l0, l1, l2] [v0] h Q ↔ wp 107 938 [l0, l1, l2] [.inl 10, v0] h Q := w_const2 dL_nights_936 k_10 k8_10
theorem s107_938  : wp 107 938 [l0, l1, l2] [.inl z, .inl x] h Q ↔ if x = z then wp 107 941 [l0, l1, l2] [] h Q else wp 107 1003 [l0, l1, l2] [] h Q := w_cne dL_nights_938 (by decide)
theorem s107_941 (h0 : a ≠ 0) : wp 107 941 [l0, .inr (.inl a), l2] [] h Q ↔ wp 107 942 [l0, .inr (.inl a), l2] [.inr (.inl a)] h Q := wp_step dL_nights_941 (fun _ => if_neg h0)
theorem s107_942  : wp 107 942 [l0, l1, l2] [v0] h Q ↔ wp 107 943 [l0, l1, l2] [.inl 0, v0] h Q := w_const1 dL_nights_942 k_0
theorem s107_943  : wp 107 943 [l0, l1, l2] [v0, v1] h Q ↔ wp 107 944 [l0, l1, l2] [.inl 1, v0, v1] h Q := w_const1 dL_nights_943 k_1
theorem s107_944  : wp 107 944 [l0, l1, l2] [.inl x1, .inl x0, .inr (.inl (8 + G.length))] (em G W (hp S D)) Q ↔ wp 87 0 [.inr (.inl (8 + G.length)), .inl x0, .inl x1, .inr (.inl 0)] [] (em G W (hp S D)) (kont 107 947 [l0, l1, l2] [] Q) := w_callVh (y2 := 87) (vs := [.inl x0, .inl x1]) (st := []) dL_nights_944 (by decide +kernel) rfl (by decide +kernel) (Nat.le_of_ble_eq_true rfl) (eSm_4 (by simp)) 7 rfl em_o rfl (by omega)
theorem s107_947  : wp 107 947 [l0, l1, l2] [v0] h Q ↔ wp 107 948 [l0, l1, l2] [.inl 2, v0] h Q := w_const1 dL_nights_947 k_2
theorem s107_948  : wp 107 948 [l0, l1, l2] [.inl z, .inl x] h Q ↔ if x = z then wp 107 951 [l0, l1, l2] [] h Q else wp 107 1003 [l0, l1, l2] [] h Q := w_cne dL_nights_948 (by decide)
theorem s107_951 (h0 : a ≠ 0) : wp 107 951 [l0, .inr (.inl a), l2] [] h Q ↔ wp 107 952 [l0, .inr (.inl a), l2] [.inr (.inl a)] h Q := wp_step dL_nights_951 (fun _ => if_neg h0)
theorem s107_952  : wp 107 952 [l0, l1, l2] [v0] h Q ↔ wp 107 953 [l0, l1, l2] [.inl 0, v0] h Q := w_const1 dL_nights_952 k_0
theorem s107_953  : wp 107 953 [l0, l1, l2] [v0, v1] h Q ↔ wp 107 954 [l0, l1, l2] [.inl 2, v0, v1] h Q := w_const1 dL_nights_953 k_2
theorem s107_954  : wp 107 954 [l0, l1, l2] [.inl x1, .inl x0, .inr (.inl (8 + G.length))] (em G W (hp S D)) Q ↔ wp 87 0 [.inr (.inl (8 + G.length)), .inl x0, .inl x1, .inr (.inl 0)] [] (em G W (hp S D)) (kont 107 957 [l0, l1, l2] [] Q) := w_callVh (y2 := 87) (vs := [.inl x0, .inl x1]) (st := []) dL_nights_954 (by decide +kernel) rfl (by decide +kernel) (Nat.le_of_ble_eq_true rfl) (eSm_4 (by simp)) 7 rfl em_o rfl (by omega)
theorem s107_957  : wp 107 957 [l0, l1, l2] [v0] h Q ↔ wp 107 958 [l0, l1, l2] [.inl 4, v0] h Q := w_const1 dL_nights_957 k_4
theorem s107_958  : wp 107 958 [l0, l1, l2] [.inl z, .inl x] h Q ↔ if x = z then wp 107 961 [l0, l1, l2] [] h Q else wp 107 1003 [l0, l1, l2] [] h Q := w_cne dL_nights_958 (by decide)
theorem s107_961 (h0 : a ≠ 0) : wp 107 961 [l0, .inr (.inl a), l2] [] h Q ↔ wp 107 962 [l0, .inr (.inl a), l2] [.inr (.inl a)] h Q := wp_step dL_nights_961 (fun _ => if_neg h0)
theorem s107_962  : wp 107 962 [l0, l1, l2] [v0] h Q ↔ wp 107 963 [l0, l1, l2] [.inl 1, v0] h Q := w_const1 dL_nights_962 k_1
theorem s107_963  : wp 107 963 [l0, l1, l2] [.inl x0, .inr (.inl (8 + G.length))] (em G W (hp S D)) Q ↔ wp 76 0 [.inr (.inl (8 + G.length)), .inl x0, .inr (.inl 0), .inr (.inl 0)] [] (em G W (hp S D)) (kont 107 966 [l0, l1, l2] [] Q) := w_callVh (y2 := 76) (vs := [.inl x0]) (st := []) dL_nights_963 (by decide +kernel) rfl (by decide +kernel) (Nat.le_of_ble_eq_true rfl) (eSm_4 (by simp)) 7 rfl em_o rfl (by omega)
theorem s107_966  : wp 107 966 [l0, l1, l2] [v0] h Q ↔ wp 107 967 [l0, l1, l2] [.inl 1, v0] h Q := w_const1 dL_nights_966 k_1
theorem s107_967  : wp 107 967 [l0, l1, l2] [.inl z, .inl x] h Q ↔ if x = z then wp 107 970 [l0, l1, l2] [] h Q else wp 107 1003 [l0, l1, l2] [] h Q := w_cne dL_nights_967 (by decide)
theorem s107_970 (h0 : a ≠ 0) : wp 107 970 [l0, .inr (.inl a), l2] [] h Q ↔ wp 107 971 [l0, .inr (.inl a), l2] [.inr (.inl a)] h Q := wp_step dL_nights_970 (fun _ => if_neg h0)
theorem s107_971  : wp 107 971 [l0, l1, l2] [v0] h Q ↔ wp 107 973 [l0, l1, l2] [.inl 6, v0] h Q := w_const2 dL_nights_971 k_6 k8_6
theorem s107_973  : wp 107 973 [l0, l1, l2] [.inl x0, .inr (.inl (8 + G.length))] (em G W (hp S D)) Q ↔ wp 89 0 [.inr (.inl (8 + G.length)), .inl x0] [] (em G W (hp S D)) (kont 107 976 [l0, l1, l2] [] Q) := w_callVh (y2 := 89) (vs := [.inl x0]) (st := []) dL_nights_973 (by decide +kernel) rfl (by decide +kernel) (Nat.le_of_ble_eq_true rfl) (eSm_4 (by simp)) 7 rfl em_o rfl (by omega)
theorem s107_976  : wp 107 976 [l0, l1, l2] [v0] h Q ↔ wp 107 978 [l0, l1, l2] [.inl 93, v0] h Q := w_const2 dL_nights_976 k_93 k8_93
theorem s107_978  : wp 107 978 [l0, l1, l2] [.inl z, .inl x] h Q ↔ if x = z then wp 107 981 [l0, l1, l2] [] h Q else wp 107 1003 [l0, l1, l2] [] h Q := w_cne dL_nights_978 (by decide)
theorem s107_981 (h0 : a ≠ 0) : wp 107 981 [l0, .inr (.inl a), l2] [] h Q ↔ wp 107 982 [l0, .inr (.inl a), l2] [.inr (.inl a)] h Q := wp_step dL_nights_981 (fun _ => if_neg h0)
theorem s107_982  : wp 107 982 [l0, l1, l2] [v0] h Q ↔ wp 107 983 [l0, l1, l2] [.inl 1, v0] h Q := w_const1 dL_nights_982 k_1
theorem s107_983  : wp 107 983 [l0, l1, l2] [.inl x0, .inr (.inl (8 + G.length))] (em G W (hp S D)) Q ↔ wp 89 0 [.inr (.inl (8 + G.length)), .inl x0] [] (em G W (hp S D)) (kont 107 986 [l0, l1, l2] [] Q) := w_callVh (y2 := 89) (vs := [.inl x0]) (st := []) dL_nights_983 (by decide +kernel) rfl (by decide +kernel) (Nat.le_of_ble_eq_true rfl) (eSm_4 (by simp)) 7 rfl em_o rfl (by omega)
theorem s107_986  : wp 107 986 [l0, l1, l2] [v0] h Q ↔ wp 107 988 [l0, l1, l2] [.inl 6, v0] h Q := w_const2 dL_nights_986 k_6 k8_6
theorem s107_988  : wp 107 988 [l0, l1, l2] [.inl z, .inl x] h Q ↔ if x = z then wp 107 991 [l0, l1, l2] [] h Q else wp 107 1003 [l0, l1, l2] [] h Q := w_cne dL_nights_988 (by decide)
theorem s107_991 (h0 : a ≠ 0) : wp 107 991 [l0, .inr (.inl a), l2] [] h Q ↔ wp 107 992 [l0, .inr (.inl a), l2] [.inr (.inl a)] h Q := wp_step dL_nights_991 (fun _ => if_neg h0)
theorem s107_992  : wp 107 992 [l0, l1, l2] [v0] h Q ↔ wp 107 993 [l0, l1, l2] [.inl 0, v0] h Q := w_const1 dL_nights_992 k_0
theorem s107_993  : wp 107 993 [l0, l1, l2] [v0, v1] h Q ↔ wp 107 994 [l0, l1, l2] [.inl 4, v0, v1] h Q := w_const1 dL_nights_993 k_4
theorem s107_994  : wp 107 994 [l0, l1, l2] [v0, v1, v2] h Q ↔ wp 107 996 [l0, l1, l2] [.inl 6, v0, v1, v2] h Q := w_const2 dL_nights_994 k_6 k8_6
theorem s107_996  : wp 107 996 [l0, l1, l2] [v0, v1, v2, v3] h Q ↔ wp 107 997 [l0, l1, l2] [.inl 0, v0, v1, v2, v3] h Q := w_const1 dL_nights_996 k_0
theorem s107_997  : wp 107 997 [l0, l1, l2] [.inl x4, .inl x3, .inl x2, .inl x1, .inr (.inl a0)] h Q ↔ wp 106 0 [.inr (.inl a0), .inl x1, .inl x2, .inl x3, .inl x4] [] h (kont 107 1000 [l0, l1, l2] [] Q) := w_callS (y2 := 106) (kd := 0) (vs := [.inr (.inl a0), .inl x1, .inl x2, .inl x3, .inl x4]) (st := []) dL_nights_997 (by decide +kernel) (by decide) rfl (by decide +kernel) (Nat.le_of_ble_eq_true rfl) (eSm_4 (by simp))
theorem s107_1000  : wp 107 1000 [l0, l1, l2] [.inl x] h Q ↔ if x = 0 then wp 107 1003 [l0, l1, l2] [] h Q else wp 107 1005 [l0, l1, l2] [] h Q := w_ne0 dL_nights_1000 (by decide)
theorem s107_1003  : wp 107 1003 [l0, l1, l2] [] h Q ↔ wp 107 1004 [l0, l1, l2] [.inl 0] h Q := w_const1 dL_nights_1003 k_0
theorem s107_1004 (h0 : x = 0 ∨ x = 1) : wp 107 1004 [l0, l1, l2] [.inl x] h Q ↔ Q (some (.inl x)) h := w_reti dL_nights_1004 (e_rz (by decide +kernel) h0)
theorem s107_1005 (h0 : a ≠ 0) : wp 107 1005 [l0, .inr (.inl a), l2] [] h Q ↔ wp 107 1006 [l0, .inr (.inl a), l2] [.inr (.inl a)] h Q := wp_step dL_nights_1005 (fun _ => if_neg h0)
theorem s107_1006  : wp 107 1006 [l0, l1, l2] [.inr (.inl a0)] h Q ↔ wp 105 0 [.inr (.inl a0), .inr (.inl 0), .inr (.inl 0), .inr (.inl 0)] [] h (kont 107 1009 [l0, l1, l2] [] Q) := w_callS (y2 := 105) (kd := 0) (vs := [.inr (.inl a0)]) (st := []) dL_nights_1006 (by decide +kernel) (by decide) rfl (by decide +kernel) (Nat.le_of_ble_eq_true rfl) (eSm_4 (by simp))
theorem s107_1009 (h0 : x = 0 ∨ x = 1) : wp 107 1009 [l0, l1, l2] [.inl x] h Q ↔ Q (some (.inl x)) h := w_reti dL_nights_1009 (e_rz (by decide +kernel) h0)
end ELSTEP
