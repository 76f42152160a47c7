/-! a rule for each instruction of each method; printed by wip/p26/gen/steps.py -/
def nfs : List Nat := [13, 5, 3, 6, 4, 7, 6, 8]
theorem ln_obj0 : ∀ k, k < 158 → tg k < 100 → lnL.getD k 0 = nfs.getD (tg k) 0 ∧ k ≠ 7 := by decide +kernel
theorem ln_obj {S : List Int} {k t : Nat} (h : tg k = t) (ht : t < 100) : ln S k = nfs.getD t 0 := by
  have h1 := ln_obj0 k (tg_lt (by omega)) (by omega)
  unfold ln
  rw [if_neg h1.2, h1.1, h]
theorem ln_ok {S : List Int} {t j : Nat} (ht : t < 100) (hj : j < nfs.getD t 0) : ∀ k, tg k = t → j < ln S k := fun k hk => by rw [ln_obj hk ht]; exact hj
theorem lnL_lt : ∀ k, k < 158 → lnL.getD k 0 < 1000 := by decide +kernel
theorem ln_lt {S : List Int} (hS : S.length ≤ 2048) (k : Nat) : ln S k < 2147483648 := by
  unfold ln
  split
  · omega
  · by_cases h : k < 158
    · have := lnL_lt k h
      omega
    · rw [List.getD_eq_getElem?_getD, List.getElem?_eq_none (by rw [show lnL.length = 158 by decide +kernel]; omega)]
      decide
theorem e_ri {y : Nat} {x : Int} (h : eT y = some .int) : eRetI y x = true := by simp [eRetI, h]
theorem e_rz {y : Nat} {x : Int} (h : eT y = some .boolean) (hx : x = 0 ∨ x = 1) : eRetI y x = true := by
  rcases hx with rfl | rfl <;> simp [eRetI, h]
theorem w_reti {y pc : Nat} {ls : List eV} {h : eH} {Q : Option eV → eH → Prop} {x : Int} (hd : decode (eB y) pc = .ok (.ireturn, 1)) (hc : eRetI y x = true) : wp y pc ls [.inl x] h Q ↔ Q (some (.inl x)) h := wp_end hd (fun f => by simp [exI, hc])
theorem w_reta {y pc : Nat} {ls : List eV} {h : eH} {Q : Option eV → eH → Prop} {a : Nat} (hd : decode (eB y) pc = .ok (.areturn, 1)) (hc : eRetR y = true) (h0 : a ≠ 0) : wp y pc ls [.inr (.inl a)] h Q ↔ Q (some (.inr (.inl a))) h := wp_end hd (fun f => by simp [exI, hc, h0])
theorem w_retv {y pc : Nat} {ls : List eV} {h : eH} {Q : Option eV → eH → Prop} (hd : decode (eB y) pc = .ok (.return_, 1)) (hc : eT y = none) : wp y pc ls [] h Q ↔ Q none h := wp_end hd (fun f => by simp [exI, hc])
theorem k_m104 : w32 (-104) = (-104) := w32_of (by decide) (by decide)
theorem k8_m104 : (Int8.ofInt (-104)).toInt32 = Int32.ofInt (-104) := by decide +kernel
theorem k_m100 : w32 (-100) = (-100) := w32_of (by decide) (by decide)
theorem k8_m100 : (Int8.ofInt (-100)).toInt32 = Int32.ofInt (-100) := by decide +kernel
theorem k_m99 : w32 (-99) = (-99) := w32_of (by decide) (by decide)
theorem k8_m99 : (Int8.ofInt (-99)).toInt32 = Int32.ofInt (-99) := by decide +kernel
theorem k_m5 : w32 (-5) = (-5) := w32_of (by decide) (by decide)
theorem k8_m5 : (Int8.ofInt (-5)).toInt32 = Int32.ofInt (-5) := by decide +kernel
theorem k_m4 : w32 (-4) = (-4) := w32_of (by decide) (by decide)
theorem k8_m4 : (Int8.ofInt (-4)).toInt32 = Int32.ofInt (-4) := by decide +kernel
theorem k_m3 : w32 (-3) = (-3) := w32_of (by decide) (by decide)
theorem k8_m3 : (Int8.ofInt (-3)).toInt32 = Int32.ofInt (-3) := by decide +kernel
theorem k_m2 : w32 (-2) = (-2) := w32_of (by decide) (by decide)
theorem k8_m2 : (Int8.ofInt (-2)).toInt32 = Int32.ofInt (-2) := by decide +kernel
theorem k_m1 : w32 (-1) = (-1) := w32_of (by decide) (by decide)
theorem k_0 : w32 0 = 0 := w32_of (by decide) (by decide)
theorem k_1 : w32 1 = 1 := w32_of (by decide) (by decide)
theorem k_2 : w32 2 = 2 := w32_of (by decide) (by decide)
theorem k_3 : w32 3 = 3 := w32_of (by decide) (by decide)
theorem k_4 : w32 4 = 4 := w32_of (by decide) (by decide)
theorem k_5 : w32 5 = 5 := w32_of (by decide) (by decide)
theorem k_6 : w32 6 = 6 := w32_of (by decide) (by decide)
theorem k8_6 : (Int8.ofInt 6).toInt32 = Int32.ofInt 6 := by decide +kernel
theorem k_7 : w32 7 = 7 := w32_of (by decide) (by decide)
theorem k8_7 : (Int8.ofInt 7).toInt32 = Int32.ofInt 7 := by decide +kernel
theorem k_8 : w32 8 = 8 := w32_of (by decide) (by decide)
theorem k8_8 : (Int8.ofInt 8).toInt32 = Int32.ofInt 8 := by decide +kernel
theorem k_9 : w32 9 = 9 := w32_of (by decide) (by decide)
theorem k8_9 : (Int8.ofInt 9).toInt32 = Int32.ofInt 9 := by decide +kernel
theorem k_10 : w32 10 = 10 := w32_of (by decide) (by decide)
theorem k8_10 : (Int8.ofInt 10).toInt32 = Int32.ofInt 10 := by decide +kernel
theorem k_11 : w32 11 = 11 := w32_of (by decide) (by decide)
theorem k8_11 : (Int8.ofInt 11).toInt32 = Int32.ofInt 11 := by decide +kernel
theorem k_12 : w32 12 = 12 := w32_of (by decide) (by decide)
theorem k8_12 : (Int8.ofInt 12).toInt32 = Int32.ofInt 12 := by decide +kernel
theorem k_13 : w32 13 = 13 := w32_of (by decide) (by decide)
theorem k8_13 : (Int8.ofInt 13).toInt32 = Int32.ofInt 13 := by decide +kernel
theorem k_14 : w32 14 = 14 := w32_of (by decide) (by decide)
theorem k8_14 : (Int8.ofInt 14).toInt32 = Int32.ofInt 14 := by decide +kernel
theorem k_16 : w32 16 = 16 := w32_of (by decide) (by decide)
theorem k8_16 : (Int8.ofInt 16).toInt32 = Int32.ofInt 16 := by decide +kernel
theorem k_17 : w32 17 = 17 := w32_of (by decide) (by decide)
theorem k8_17 : (Int8.ofInt 17).toInt32 = Int32.ofInt 17 := by decide +kernel
theorem k_19 : w32 19 = 19 := w32_of (by decide) (by decide)
theorem k8_19 : (Int8.ofInt 19).toInt32 = Int32.ofInt 19 := by decide +kernel
theorem k_24 : w32 24 = 24 := w32_of (by decide) (by decide)
theorem k8_24 : (Int8.ofInt 24).toInt32 = Int32.ofInt 24 := by decide +kernel
theorem k_25 : w32 25 = 25 := w32_of (by decide) (by decide)
theorem k8_25 : (Int8.ofInt 25).toInt32 = Int32.ofInt 25 := by decide +kernel
theorem k_30 : w32 30 = 30 := w32_of (by decide) (by decide)
theorem k8_30 : (Int8.ofInt 30).toInt32 = Int32.ofInt 30 := by decide +kernel
theorem k_31 : w32 31 = 31 := w32_of (by decide) (by decide)
theorem k8_31 : (Int8.ofInt 31).toInt32 = Int32.ofInt 31 := by decide +kernel
theorem k_36 : w32 36 = 36 := w32_of (by decide) (by decide)
theorem k8_36 : (Int8.ofInt 36).toInt32 = Int32.ofInt 36 := by decide +kernel
theorem k_37 : w32 37 = 37 := w32_of (by decide) (by decide)
theorem k8_37 : (Int8.ofInt 37).toInt32 = Int32.ofInt 37 := by decide +kernel
theorem k_40 : w32 40 = 40 := w32_of (by decide) (by decide)
theorem k8_40 : (Int8.ofInt 40).toInt32 = Int32.ofInt 40 := by decide +kernel
theorem k_44 : w32 44 = 44 := w32_of (by decide) (by decide)
theorem k8_44 : (Int8.ofInt 44).toInt32 = Int32.ofInt 44 := by decide +kernel
theorem k_47 : w32 47 = 47 := w32_of (by decide) (by decide)
theorem k8_47 : (Int8.ofInt 47).toInt32 = Int32.ofInt 47 := by decide +kernel
theorem k_48 : w32 48 = 48 := w32_of (by decide) (by decide)
theorem k8_48 : (Int8.ofInt 48).toInt32 = Int32.ofInt 48 := by decide +kernel
theorem k_49 : w32 49 = 49 := w32_of (by decide) (by decide)
theorem k8_49 : (Int8.ofInt 49).toInt32 = Int32.ofInt 49 := by decide +kernel
theorem k_50 : w32 50 = 50 := w32_of (by decide) (by decide)
theorem k8_50 : (Int8.ofInt 50).toInt32 = Int32.ofInt 50 := by decide +kernel
theorem k_55 : w32 55 = 55 := w32_of (by decide) (by decide)
theorem k8_55 : (Int8.ofInt 55).toInt32 = Int32.ofInt 55 := by decide +kernel
theorem k_56 : w32 56 = 56 := w32_of (by decide) (by decide)
theorem k8_56 : (Int8.ofInt 56).toInt32 = Int32.ofInt 56 := by decide +kernel
theorem k_57 : w32 57 = 57 := w32_of (by decide) (by decide)
theorem k8_57 : (Int8.ofInt 57).toInt32 = Int32.ofInt 57 := by decide +kernel
theorem k_58 : w32 58 = 58 := w32_of (by decide) (by decide)
theorem k8_58 : (Int8.ofInt 58).toInt32 = Int32.ofInt 58 := by decide +kernel
theorem k_60 : w32 60 = 60 := w32_of (by decide) (by decide)
theorem k8_60 : (Int8.ofInt 60).toInt32 = Int32.ofInt 60 := by decide +kernel
theorem k_64 : w32 64 = 64 := w32_of (by decide) (by decide)
theorem k8_64 : (Int8.ofInt 64).toInt32 = Int32.ofInt 64 := by decide +kernel
theorem k_74 : w32 74 = 74 := w32_of (by decide) (by decide)
theorem k8_74 : (Int8.ofInt 74).toInt32 = Int32.ofInt 74 := by decide +kernel
theorem k_76 : w32 76 = 76 := w32_of (by decide) (by decide)
theorem k8_76 : (Int8.ofInt 76).toInt32 = Int32.ofInt 76 := by decide +kernel
theorem k_93 : w32 93 = 93 := w32_of (by decide) (by decide)
theorem k8_93 : (Int8.ofInt 93).toInt32 = Int32.ofInt 93 := by decide +kernel
theorem k_99 : w32 99 = 99 := w32_of (by decide) (by decide)
theorem k8_99 : (Int8.ofInt 99).toInt32 = Int32.ofInt 99 := by decide +kernel
theorem k_100 : w32 100 = 100 := w32_of (by decide) (by decide)
theorem k8_100 : (Int8.ofInt 100).toInt32 = Int32.ofInt 100 := by decide +kernel
theorem k_101 : w32 101 = 101 := w32_of (by decide) (by decide)
theorem k8_101 : (Int8.ofInt 101).toInt32 = Int32.ofInt 101 := by decide +kernel
theorem k_120 : w32 120 = 120 := w32_of (by decide) (by decide)
theorem k8_120 : (Int8.ofInt 120).toInt32 = Int32.ofInt 120 := by decide +kernel
theorem k_150 : w32 150 = 150 := w32_of (by decide) (by decide)
theorem k16_150 : (Int16.ofInt 150).toInt32 = Int32.ofInt 150 := by decide +kernel
theorem k_151 : w32 151 = 151 := w32_of (by decide) (by decide)
theorem k16_151 : (Int16.ofInt 151).toInt32 = Int32.ofInt 151 := by decide +kernel
theorem k_152 : w32 152 = 152 := w32_of (by decide) (by decide)
theorem k16_152 : (Int16.ofInt 152).toInt32 = Int32.ofInt 152 := by decide +kernel
theorem k_187 : w32 187 = 187 := w32_of (by decide) (by decide)
theorem k16_187 : (Int16.ofInt 187).toInt32 = Int32.ofInt 187 := by decide +kernel
theorem k_200 : w32 200 = 200 := w32_of (by decide) (by decide)
theorem k16_200 : (Int16.ofInt 200).toInt32 = Int32.ofInt 200 := by decide +kernel
theorem k_201 : w32 201 = 201 := w32_of (by decide) (by decide)
theorem k16_201 : (Int16.ofInt 201).toInt32 = Int32.ofInt 201 := by decide +kernel
theorem k_237 : w32 237 = 237 := w32_of (by decide) (by decide)
theorem k16_237 : (Int16.ofInt 237).toInt32 = Int32.ofInt 237 := by decide +kernel
theorem k_240 : w32 240 = 240 := w32_of (by decide) (by decide)
theorem k16_240 : (Int16.ofInt 240).toInt32 = Int32.ofInt 240 := by decide +kernel
theorem k_690 : w32 690 = 690 := w32_of (by decide) (by decide)
theorem k16_690 : (Int16.ofInt 690).toInt32 = Int32.ofInt 690 := by decide +kernel
theorem k_700 : w32 700 = 700 := w32_of (by decide) (by decide)
theorem k16_700 : (Int16.ofInt 700).toInt32 = Int32.ofInt 700 := by decide +kernel
theorem k_900 : w32 900 = 900 := w32_of (by decide) (by decide)
theorem k16_900 : (Int16.ofInt 900).toInt32 = Int32.ofInt 900 := by decide +kernel
theorem k_1392 : w32 1392 = 1392 := w32_of (by decide) (by decide)
theorem k16_1392 : (Int16.ofInt 1392).toInt32 = Int32.ofInt 1392 := by decide +kernel
theorem k_3000 : w32 3000 = 3000 := w32_of (by decide) (by decide)
theorem k16_3000 : (Int16.ofInt 3000).toInt32 = Int32.ofInt 3000 := by decide +kernel
theorem k_7919 : w32 7919 = 7919 := w32_of (by decide) (by decide)
theorem k16_7919 : (Int16.ofInt 7919).toInt32 = Int32.ofInt 7919 := by decide +kernel
theorem k_9999 : w32 9999 = 9999 := w32_of (by decide) (by decide)
theorem k16_9999 : (Int16.ofInt 9999).toInt32 = Int32.ofInt 9999 := by decide +kernel
theorem k_10000 : w32 10000 = 10000 := w32_of (by decide) (by decide)
theorem k16_10000 : (Int16.ofInt 10000).toInt32 = Int32.ofInt 10000 := by decide +kernel
section ESTEP
variable {l0 l1 l2 l3 l4 l5 l6 l7 l8 l9 v0 v1 v2 v3 v4 v5 v6 v7 p q p0 p1 p2 p3 : eV} {a a0 a1 a2 a3 : Nat} {x z x0 x1 x2 x3 x4 x5 : Int} {w w0 w1 w2 w3 : Int64} {h : eH} {Q : Option eV → eH → Prop} {S : List Int} {D : eD}
theorem s0_0 (h0 : a ≠ 0) : wp 0 0 [.inr (.inl a), l1] [] h Q ↔ wp 0 1 [.inr (.inl a), l1] [.inr (.inl a)] h Q := wp_step dX0_init_0 (fun _ => if_neg h0)
theorem s0_1 (h8 : 8 ≤ a) : wp 0 1 [l0, l1] [.inr (.inl a)] h Q ↔ wp 0 4 [l0, l1] [] h Q := w_callO dX0_init_1 (y2 := 0) (by decide +kernel) ⟨eSm_4 (by simp), by decide +kernel, by decide +kernel⟩ h8
theorem s0_4 (h0 : a ≠ 0) : wp 0 4 [.inr (.inl a), l1] [] h Q ↔ wp 0 5 [.inr (.inl a), l1] [.inr (.inl a)] h Q := wp_step dX0_init_4 (fun _ => if_neg h0)
theorem s0_5  : wp 0 5 [l0, l1] [v0] h Q ↔ wp 0 8 [l0, l1] [.inr (.inl 1), v0] h Q := w_stat dX0_init_5 (by decide +kernel)
theorem s0_14  : wp 0 14 [l0, l1] [] h Q ↔ wp 0 15 [l0, l1] [.inl 0] h Q := w_const1 dX0_init_14 k_0
theorem s0_15  : wp 0 15 [l0, l1] [.inl x] h Q ↔ wp 0 16 [l0, .inl x] [] h Q := wp_step dX0_init_15 (fun _ => rfl)
theorem s0_16  : wp 0 16 [l0, .inl x] [] h Q ↔ wp 0 17 [l0, .inl x] [.inl x] h Q := wp_step dX0_init_16 (fun _ => rfl)
theorem s0_17 (h0 : a ≠ 0) : wp 0 17 [.inr (.inl a), l1] [v0] h Q ↔ wp 0 18 [.inr (.inl a), l1] [.inr (.inl a), v0] h Q := wp_step dX0_init_17 (fun _ => if_neg h0)
theorem s0_22  : wp 0 22 [l0, l1] [.inl z, .inl x] h Q ↔ if x < z then wp 0 25 [l0, l1] [] h Q else wp 0 44 [l0, l1] [] h Q := w_cge dX0_init_22 (by decide)
theorem s0_25 (h0 : a ≠ 0) : wp 0 25 [.inr (.inl a), l1] [] h Q ↔ wp 0 26 [.inr (.inl a), l1] [.inr (.inl a)] h Q := wp_step dX0_init_25 (fun _ => if_neg h0)
theorem s0_29  : wp 0 29 [l0, .inl x] [v0] h Q ↔ wp 0 30 [l0, .inl x] [.inl x, v0] h Q := wp_step dX0_init_29 (fun _ => rfl)
theorem s0_30  : wp 0 30 [l0, l1] [v0, v1] h Q ↔ wp 0 33 [l0, l1] [.inr (.inl 1), v0, v1] h Q := w_stat dX0_init_30 (by decide +kernel)
theorem s0_33  : wp 0 33 [l0, .inl x] [v0, v1, v2] h Q ↔ wp 0 34 [l0, .inl x] [.inl x, v0, v1, v2] h Q := wp_step dX0_init_33 (fun _ => rfl)
theorem s0_34  : wp 0 34 [l0, l1] [.inl x1, .inr (.inl a0), v0, v1] h Q ↔ wp 51 0 [.inr (.inl a0), .inl x1] [] h (kont 0 37 [l0, l1] [v0, v1] Q) := w_callS (y2 := 51) (kd := 0) (vs := [.inr (.inl a0), .inl x1]) (st := [v0, v1]) dX0_init_34 (by decide +kernel) (by decide) rfl (by decide +kernel) (Nat.le_of_ble_eq_true rfl) (eSm_4 (by simp))
theorem s0_38  : wp 0 38 [l0, .inl x] [] h Q ↔ wp 0 41 [l0, .inl (w32 (x + 1))] [] h Q := wp_step dX0_init_38 (fun _ => rfl)
theorem s0_41  : wp 0 41 [l0, l1] [] h Q ↔ wp 0 16 [l0, l1] [] h Q := w_goto dX0_init_41 (by decide)
theorem s0_44 (h0 : a ≠ 0) : wp 0 44 [.inr (.inl a), l1] [] h Q ↔ wp 0 45 [.inr (.inl a), l1] [.inr (.inl a)] h Q := wp_step dX0_init_44 (fun _ => if_neg h0)
theorem s0_45  : wp 0 45 [l0, l1] [v0] h Q ↔ wp 0 46 [l0, l1] [.inl 3, v0] h Q := w_const1 dX0_init_45 k_3
theorem s0_51 (h0 : a ≠ 0) : wp 0 51 [.inr (.inl a), l1] [] h Q ↔ wp 0 52 [.inr (.inl a), l1] [.inr (.inl a)] h Q := wp_step dX0_init_51 (fun _ => if_neg h0)
theorem s0_55  : wp 0 55 [l0, l1] [.inr (.inl a0), v0] h Q ↔ wp 0 56 [l0, l1] [.inr (.inl a0), .inr (.inl a0), v0] h Q := wp_step dX0_init_55 (fun _ => rfl)
theorem s0_56 (h8 : 8 ≤ a) : wp 0 56 [l0, l1] [.inr (.inl a), v0, v1] h Q ↔ wp 54 0 [.inr (.inl a), .inr (.inl 0)] [] h (kont 0 59 [l0, l1] [v0, v1] Q) := w_callI (y2 := 54) (vs := []) (st := [v0, v1]) dX0_init_56 (by decide +kernel) rfl (by decide +kernel) (Nat.le_of_ble_eq_true rfl) (eSm_4 (by simp)) h8
theorem s0_62 (h0 : a ≠ 0) : wp 0 62 [.inr (.inl a), l1] [] h Q ↔ wp 0 63 [.inr (.inl a), l1] [.inr (.inl a)] h Q := wp_step dX0_init_62 (fun _ => if_neg h0)
theorem s0_66  : wp 0 66 [l0, l1] [.inr (.inl a0), v0] h Q ↔ wp 0 67 [l0, l1] [.inr (.inl a0), .inr (.inl a0), v0] h Q := wp_step dX0_init_66 (fun _ => rfl)
theorem s0_67 (h8 : 8 ≤ a) : wp 0 67 [l0, l1] [.inr (.inl a), v0, v1] h Q ↔ wp 35 0 [.inr (.inl a)] [] h (kont 0 70 [l0, l1] [v0, v1] Q) := w_callI (y2 := 35) (vs := []) (st := [v0, v1]) dX0_init_67 (by decide +kernel) rfl (by decide +kernel) (Nat.le_of_ble_eq_true rfl) (eSm_4 (by simp)) h8
theorem s0_73 (h0 : a ≠ 0) : wp 0 73 [.inr (.inl a), l1] [] h Q ↔ wp 0 74 [.inr (.inl a), l1] [.inr (.inl a)] h Q := wp_step dX0_init_73 (fun _ => if_neg h0)
theorem s0_77  : wp 0 77 [l0, l1] [.inr (.inl a0), v0] h Q ↔ wp 0 78 [l0, l1] [.inr (.inl a0), .inr (.inl a0), v0] h Q := wp_step dX0_init_77 (fun _ => rfl)
theorem s0_78 (h8 : 8 ≤ a) : wp 0 78 [l0, l1] [.inr (.inl a), v0, v1] h Q ↔ wp 15 0 [.inr (.inl a)] [] h (kont 0 81 [l0, l1] [v0, v1] Q) := w_callI (y2 := 15) (vs := []) (st := [v0, v1]) dX0_init_78 (by decide +kernel) rfl (by decide +kernel) (Nat.le_of_ble_eq_true rfl) (eSm_4 (by simp)) h8
theorem s0_84 (h0 : a ≠ 0) : wp 0 84 [.inr (.inl a), l1] [] h Q ↔ wp 0 85 [.inr (.inl a), l1] [.inr (.inl a)] h Q := wp_step dX0_init_84 (fun _ => if_neg h0)
theorem s0_85  : wp 0 85 [l0, l1] [v0] h Q ↔ wp 0 87 [l0, l1] [.inl 36, v0] h Q := w_const2 dX0_init_85 k_36 k8_36
theorem s0_90 (h0 : a ≠ 0) : wp 0 90 [.inr (.inl a), l1] [] h Q ↔ wp 0 91 [.inr (.inl a), l1] [.inr (.inl a)] h Q := wp_step dX0_init_90 (fun _ => if_neg h0)
theorem s0_91  : wp 0 91 [l0, l1] [v0] h Q ↔ wp 0 93 [l0, l1] [.inl 12, v0] h Q := w_const2 dX0_init_91 k_12 k8_12
theorem s0_96  : wp 0 96 [l0, l1] [] h Q ↔ Q none h := w_retv dX0_init_96 (by decide +kernel)
theorem s1_0 (h0 : a ≠ 0) : wp 1 0 [l0, .inr (.inl a)] [] h Q ↔ wp 1 1 [l0, .inr (.inl a)] [.inr (.inl a)] h Q := wp_step dX0_copyFrom_0 (fun _ => if_neg h0)
theorem s1_1 (ha : tg a = 0) : wp 1 1 [l0, l1] [.inr (.inl a)] (hp S D) Q ↔ wp 1 4 [l0, l1] [.inr (.inl (a + 1))] (hp S D) Q := w_getR dX0_copyFrom_1 (t := 0) (j := 0) (c := 2) (by decide +kernel) (by decide) rfl (ln_ok (by decide) (by decide)) ha
theorem s1_4 (h0 : a ≠ 0) : wp 1 4 [.inr (.inl a), l1] [v0] h Q ↔ wp 1 5 [.inr (.inl a), l1] [.inr (.inl a), v0] h Q := wp_step dX0_copyFrom_4 (fun _ => if_neg h0)
theorem s1_5 (ha : tg a = 0) : wp 1 5 [l0, l1] [.inr (.inl a), v0] (hp S D) Q ↔ wp 1 8 [l0, l1] [.inr (.inl (a + 1)), v0] (hp S D) Q := w_getR dX0_copyFrom_5 (t := 0) (j := 0) (c := 2) (by decide +kernel) (by decide) rfl (ln_ok (by decide) (by decide)) ha
theorem s1_8  : wp 1 8 [l0, l1] [.inr (.inl a1), .inr (.inl a0)] h Q ↔ wp 53 0 [.inr (.inl a0), .inr (.inl a1)] [] h (kont 1 11 [l0, l1] [] Q) := w_callS (y2 := 53) (kd := 0) (vs := [.inr (.inl a0), .inr (.inl a1)]) (st := []) dX0_copyFrom_8 (by decide +kernel) (by decide) rfl (by decide +kernel) (Nat.le_of_ble_eq_true rfl) (eSm_4 (by simp))
theorem s1_11 (h0 : a ≠ 0) : wp 1 11 [l0, .inr (.inl a)] [] h Q ↔ wp 1 12 [l0, .inr (.inl a)] [.inr (.inl a)] h Q := wp_step dX0_copyFrom_11 (fun _ => if_neg h0)
theorem s1_12 (ha : tg a = 0) : wp 1 12 [l0, l1] [.inr (.inl a)] (hp S D) Q ↔ wp 1 15 [l0, l1] [.inr (.inl (a + 2))] (hp S D) Q := w_getR dX0_copyFrom_12 (t := 0) (j := 1) (c := 2) (by decide +kernel) (by decide) rfl (ln_ok (by decide) (by decide)) ha
theorem s1_15 (h0 : a ≠ 0) : wp 1 15 [.inr (.inl a), l1] [v0] h Q ↔ wp 1 16 [.inr (.inl a), l1] [.inr (.inl a), v0] h Q := wp_step dX0_copyFrom_15 (fun _ => if_neg h0)
theorem s1_16 (ha : tg a = 0) : wp 1 16 [l0, l1] [.inr (.inl a), v0] (hp S D) Q ↔ wp 1 19 [l0, l1] [.inr (.inl (a + 2)), v0] (hp S D) Q := w_getR dX0_copyFrom_16 (t := 0) (j := 1) (c := 2) (by decide +kernel) (by decide) rfl (ln_ok (by decide) (by decide)) ha
theorem s1_19  : wp 1 19 [l0, l1] [.inr (.inl a1), .inr (.inl a0)] h Q ↔ wp 53 0 [.inr (.inl a0), .inr (.inl a1)] [] h (kont 1 22 [l0, l1] [] Q) := w_callS (y2 := 53) (kd := 0) (vs := [.inr (.inl a0), .inr (.inl a1)]) (st := []) dX0_copyFrom_19 (by decide +kernel) (by decide) rfl (by decide +kernel) (Nat.le_of_ble_eq_true rfl) (eSm_4 (by simp))
theorem s1_22 (h0 : a ≠ 0) : wp 1 22 [.inr (.inl a), l1] [] h Q ↔ wp 1 23 [.inr (.inl a), l1] [.inr (.inl a)] h Q := wp_step dX0_copyFrom_22 (fun _ => if_neg h0)
theorem s1_23 (ha : tg a = 0) : wp 1 23 [l0, l1] [.inr (.inl a)] (hp S D) Q ↔ wp 1 26 [l0, l1] [.inr (.inl (a + 3))] (hp S D) Q := w_getR dX0_copyFrom_23 (t := 0) (j := 2) (c := 2) (by decide +kernel) (by decide) rfl (ln_ok (by decide) (by decide)) ha
theorem s1_26 (h0 : a ≠ 0) : wp 1 26 [l0, .inr (.inl a)] [v0] h Q ↔ wp 1 27 [l0, .inr (.inl a)] [.inr (.inl a), v0] h Q := wp_step dX0_copyFrom_26 (fun _ => if_neg h0)
theorem s1_27 (ha : tg a = 0) : wp 1 27 [l0, l1] [.inr (.inl a), v0] (hp S D) Q ↔ wp 1 30 [l0, l1] [.inr (.inl (a + 3)), v0] (hp S D) Q := w_getR dX0_copyFrom_27 (t := 0) (j := 2) (c := 2) (by decide +kernel) (by decide) rfl (ln_ok (by decide) (by decide)) ha
theorem s1_30 (ha : tg a = 6) : wp 1 30 [l0, l1] [.inr (.inl a0), .inr (.inl a)] (hp S D) Q ↔ wp 55 0 [.inr (.inl a), .inr (.inl a0), .inr (.inl 0)] [] (hp S D) (kont 1 33 [l0, l1] [] Q) := w_callV (y2 := 55) (vs := [.inr (.inl a0)]) (st := []) dX0_copyFrom_30 (by decide +kernel) rfl (by decide +kernel) (Nat.le_of_ble_eq_true rfl) (eSm_4 (by simp)) 6 rfl (by decide) ha
theorem s1_33 (h0 : a ≠ 0) : wp 1 33 [.inr (.inl a), l1] [] h Q ↔ wp 1 34 [.inr (.inl a), l1] [.inr (.inl a)] h Q := wp_step dX0_copyFrom_33 (fun _ => if_neg h0)
theorem s1_34 (ha : tg a = 0) : wp 1 34 [l0, l1] [.inr (.inl a)] (hp S D) Q ↔ wp 1 37 [l0, l1] [.inr (.inl (a + 12))] (hp S D) Q := w_getR dX0_copyFrom_34 (t := 0) (j := 3) (c := 2) (by decide +kernel) (by decide) rfl (ln_ok (by decide) (by decide)) ha
theorem s1_37 (h0 : a ≠ 0) : wp 1 37 [l0, .inr (.inl a)] [v0] h Q ↔ wp 1 38 [l0, .inr (.inl a)] [.inr (.inl a), v0] h Q := wp_step dX0_copyFrom_37 (fun _ => if_neg h0)
theorem s1_38 (ha : tg a = 0) : wp 1 38 [l0, l1] [.inr (.inl a), v0] (hp S D) Q ↔ wp 1 41 [l0, l1] [.inr (.inl (a + 12)), v0] (hp S D) Q := w_getR dX0_copyFrom_38 (t := 0) (j := 3) (c := 2) (by decide +kernel) (by decide) rfl (ln_ok (by decide) (by decide)) ha
theorem s1_41 (ha : tg a = 4) : wp 1 41 [l0, l1] [.inr (.inl a0), .inr (.inl a)] (hp S D) Q ↔ wp 36 0 [.inr (.inl a), .inr (.inl a0)] [] (hp S D) (kont 1 44 [l0, l1] [] Q) := w_callV (y2 := 36) (vs := [.inr (.inl a0)]) (st := []) dX0_copyFrom_41 (by decide +kernel) rfl (by decide +kernel) (Nat.le_of_ble_eq_true rfl) (eSm_4 (by simp)) 4 rfl (by decide) ha
theorem s1_44 (h0 : a ≠ 0) : wp 1 44 [.inr (.inl a), l1] [] h Q ↔ wp 1 45 [.inr (.inl a), l1] [.inr (.inl a)] h Q := wp_step dX0_copyFrom_44 (fun _ => if_neg h0)
theorem s1_45 (ha : tg a = 0) : wp 1 45 [l0, l1] [.inr (.inl a)] (hp S D) Q ↔ wp 1 48 [l0, l1] [.inr (.inl (a + 16))] (hp S D) Q := w_getR dX0_copyFrom_45 (t := 0) (j := 4) (c := 2) (by decide +kernel) (by decide) rfl (ln_ok (by decide) (by decide)) ha
theorem s1_48 (h0 : a ≠ 0) : wp 1 48 [l0, .inr (.inl a)] [v0] h Q ↔ wp 1 49 [l0, .inr (.inl a)] [.inr (.inl a), v0] h Q := wp_step dX0_copyFrom_48 (fun _ => if_neg h0)
theorem s1_49 (ha : tg a = 0) : wp 1 49 [l0, l1] [.inr (.inl a), v0] (hp S D) Q ↔ wp 1 52 [l0, l1] [.inr (.inl (a + 16)), v0] (hp S D) Q := w_getR dX0_copyFrom_49 (t := 0) (j := 4) (c := 2) (by decide +kernel) (by decide) rfl (ln_ok (by decide) (by decide)) ha
theorem s1_52 (ha : tg a = 1) : wp 1 52 [l0, l1] [.inr (.inl a0), .inr (.inl a)] (hp S D) Q ↔ wp 16 0 [.inr (.inl a), .inr (.inl a0)] [] (hp S D) (kont 1 55 [l0, l1] [] Q) := w_callV (y2 := 16) (vs := [.inr (.inl a0)]) (st := []) dX0_copyFrom_52 (by decide +kernel) rfl (by decide +kernel) (Nat.le_of_ble_eq_true rfl) (eSm_4 (by simp)) 1 rfl (by decide) ha
theorem s1_55 (h0 : a ≠ 0) : wp 1 55 [.inr (.inl a), l1] [] h Q ↔ wp 1 56 [.inr (.inl a), l1] [.inr (.inl a)] h Q := wp_step dX0_copyFrom_55 (fun _ => if_neg h0)
theorem s1_56 (h0 : a ≠ 0) : wp 1 56 [l0, .inr (.inl a)] [v0] h Q ↔ wp 1 57 [l0, .inr (.inl a)] [.inr (.inl a), v0] h Q := wp_step dX0_copyFrom_56 (fun _ => if_neg h0)
theorem s1_57 (ha : tg a = 0) : wp 1 57 [l0, l1] [.inr (.inl a), v0] (hp S D) Q ↔ wp 1 60 [l0, l1] [.inl (D a 5), v0] (hp S D) Q := w_getI dX0_copyFrom_57 (t := 0) (j := 5) (c := 0) (by decide +kernel) (by decide) rfl (ln_ok (by decide) (by decide)) ha
theorem s1_60 (ha : tg a = 0) : wp 1 60 [l0, l1] [.inl z, .inr (.inl a)] (hp S D) Q ↔ wp 1 63 [l0, l1] [] (hp S (up D a 5 z)) Q := w_put dX0_copyFrom_60 (t := 0) (j := 5) (c := 0) (by decide +kernel) (by decide +kernel) (by decide) rfl (ln_ok (by decide) (by decide)) (Or.inl rfl) ha
theorem s1_63 (h0 : a ≠ 0) : wp 1 63 [.inr (.inl a), l1] [] h Q ↔ wp 1 64 [.inr (.inl a), l1] [.inr (.inl a)] h Q := wp_step dX0_copyFrom_63 (fun _ => if_neg h0)
theorem s1_64 (h0 : a ≠ 0) : wp 1 64 [l0, .inr (.inl a)] [v0] h Q ↔ wp 1 65 [l0, .inr (.inl a)] [.inr (.inl a), v0] h Q := wp_step dX0_copyFrom_64 (fun _ => if_neg h0)
theorem s1_65 (ha : tg a = 0) : wp 1 65 [l0, l1] [.inr (.inl a), v0] (hp S D) Q ↔ wp 1 68 [l0, l1] [.inl (D a 6), v0] (hp S D) Q := w_getI dX0_copyFrom_65 (t := 0) (j := 6) (c := 0) (by decide +kernel) (by decide) rfl (ln_ok (by decide) (by decide)) ha
theorem s1_68 (ha : tg a = 0) : wp 1 68 [l0, l1] [.inl z, .inr (.inl a)] (hp S D) Q ↔ wp 1 71 [l0, l1] [] (hp S (up D a 6 z)) Q := w_put dX0_copyFrom_68 (t := 0) (j := 6) (c := 0) (by decide +kernel) (by decide +kernel) (by decide) rfl (ln_ok (by decide) (by decide)) (Or.inl rfl) ha
theorem s1_71 (h0 : a ≠ 0) : wp 1 71 [.inr (.inl a), l1] [] h Q ↔ wp 1 72 [.inr (.inl a), l1] [.inr (.inl a)] h Q := wp_step dX0_copyFrom_71 (fun _ => if_neg h0)
theorem s1_72 (h0 : a ≠ 0) : wp 1 72 [l0, .inr (.inl a)] [v0] h Q ↔ wp 1 73 [l0, .inr (.inl a)] [.inr (.inl a), v0] h Q := wp_step dX0_copyFrom_72 (fun _ => if_neg h0)
theorem s1_73 (ha : tg a = 0) : wp 1 73 [l0, l1] [.inr (.inl a), v0] (hp S D) Q ↔ wp 1 76 [l0, l1] [.inl (D a 7), v0] (hp S D) Q := w_getI dX0_copyFrom_73 (t := 0) (j := 7) (c := 0) (by decide +kernel) (by decide) rfl (ln_ok (by decide) (by decide)) ha
theorem s1_76 (ha : tg a = 0) : wp 1 76 [l0, l1] [.inl z, .inr (.inl a)] (hp S D) Q ↔ wp 1 79 [l0, l1] [] (hp S (up D a 7 z)) Q := w_put dX0_copyFrom_76 (t := 0) (j := 7) (c := 0) (by decide +kernel) (by decide +kernel) (by decide) rfl (ln_ok (by decide) (by decide)) (Or.inl rfl) ha
theorem s1_79 (h0 : a ≠ 0) : wp 1 79 [.inr (.inl a), l1] [] h Q ↔ wp 1 80 [.inr (.inl a), l1] [.inr (.inl a)] h Q := wp_step dX0_copyFrom_79 (fun _ => if_neg h0)
theorem s1_80 (h0 : a ≠ 0) : wp 1 80 [l0, .inr (.inl a)] [v0] h Q ↔ wp 1 81 [l0, .inr (.inl a)] [.inr (.inl a), v0] h Q := wp_step dX0_copyFrom_80 (fun _ => if_neg h0)
theorem s1_81 (ha : tg a = 0) : wp 1 81 [l0, l1] [.inr (.inl a), v0] (hp S D) Q ↔ wp 1 84 [l0, l1] [.inl (D a 8), v0] (hp S D) Q := w_getI dX0_copyFrom_81 (t := 0) (j := 8) (c := 0) (by decide +kernel) (by decide) rfl (ln_ok (by decide) (by decide)) ha
theorem s1_84 (ha : tg a = 0) : wp 1 84 [l0, l1] [.inl z, .inr (.inl a)] (hp S D) Q ↔ wp 1 87 [l0, l1] [] (hp S (up D a 8 z)) Q := w_put dX0_copyFrom_84 (t := 0) (j := 8) (c := 0) (by decide +kernel) (by decide +kernel) (by decide) rfl (ln_ok (by decide) (by decide)) (Or.inl rfl) ha
theorem s1_87 (h0 : a ≠ 0) : wp 1 87 [.inr (.inl a), l1] [] h Q ↔ wp 1 88 [.inr (.inl a), l1] [.inr (.inl a)] h Q := wp_step dX0_copyFrom_87 (fun _ => if_neg h0)
theorem s1_88 (h0 : a ≠ 0) : wp 1 88 [l0, .inr (.inl a)] [v0] h Q ↔ wp 1 89 [l0, .inr (.inl a)] [.inr (.inl a), v0] h Q := wp_step dX0_copyFrom_88 (fun _ => if_neg h0)
theorem s1_89 (ha : tg a = 0) : wp 1 89 [l0, l1] [.inr (.inl a), v0] (hp S D) Q ↔ wp 1 92 [l0, l1] [.inl (D a 9), v0] (hp S D) Q := w_getI dX0_copyFrom_89 (t := 0) (j := 9) (c := 0) (by decide +kernel) (by decide) rfl (ln_ok (by decide) (by decide)) ha
theorem s1_92 (ha : tg a = 0) : wp 1 92 [l0, l1] [.inl z, .inr (.inl a)] (hp S D) Q ↔ wp 1 95 [l0, l1] [] (hp S (up D a 9 z)) Q := w_put dX0_copyFrom_92 (t := 0) (j := 9) (c := 0) (by decide +kernel) (by decide +kernel) (by decide) rfl (ln_ok (by decide) (by decide)) (Or.inl rfl) ha
theorem s1_95 (h0 : a ≠ 0) : wp 1 95 [.inr (.inl a), l1] [] h Q ↔ wp 1 96 [.inr (.inl a), l1] [.inr (.inl a)] h Q := wp_step dX0_copyFrom_95 (fun _ => if_neg h0)
theorem s1_96 (h0 : a ≠ 0) : wp 1 96 [l0, .inr (.inl a)] [v0] h Q ↔ wp 1 97 [l0, .inr (.inl a)] [.inr (.inl a), v0] h Q := wp_step dX0_copyFrom_96 (fun _ => if_neg h0)
theorem s1_97 (ha : tg a = 0) : wp 1 97 [l0, l1] [.inr (.inl a), v0] (hp S D) Q ↔ wp 1 100 [l0, l1] [.inl (D a 10), v0] (hp S D) Q := w_getI dX0_copyFrom_97 (t := 0) (j := 10) (c := 0) (by decide +kernel) (by decide) rfl (ln_ok (by decide) (by decide)) ha
theorem s1_100 (ha : tg a = 0) : wp 1 100 [l0, l1] [.inl z, .inr (.inl a)] (hp S D) Q ↔ wp 1 103 [l0, l1] [] (hp S (up D a 10 z)) Q := w_put dX0_copyFrom_100 (t := 0) (j := 10) (c := 0) (by decide +kernel) (by decide +kernel) (by decide) rfl (ln_ok (by decide) (by decide)) (Or.inl rfl) ha
theorem s1_103 (h0 : a ≠ 0) : wp 1 103 [.inr (.inl a), l1] [] h Q ↔ wp 1 104 [.inr (.inl a), l1] [.inr (.inl a)] h Q := wp_step dX0_copyFrom_103 (fun _ => if_neg h0)
theorem s1_104 (h0 : a ≠ 0) : wp 1 104 [l0, .inr (.inl a)] [v0] h Q ↔ wp 1 105 [l0, .inr (.inl a)] [.inr (.inl a), v0] h Q := wp_step dX0_copyFrom_104 (fun _ => if_neg h0)
theorem s1_105 (ha : tg a = 0) : wp 1 105 [l0, l1] [.inr (.inl a), v0] (hp S D) Q ↔ wp 1 108 [l0, l1] [.inl (D a 11), v0] (hp S D) Q := w_getI dX0_copyFrom_105 (t := 0) (j := 11) (c := 0) (by decide +kernel) (by decide) rfl (ln_ok (by decide) (by decide)) ha
theorem s1_108 (ha : tg a = 0) : wp 1 108 [l0, l1] [.inl z, .inr (.inl a)] (hp S D) Q ↔ wp 1 111 [l0, l1] [] (hp S (up D a 11 z)) Q := w_put dX0_copyFrom_108 (t := 0) (j := 11) (c := 0) (by decide +kernel) (by decide +kernel) (by decide) rfl (ln_ok (by decide) (by decide)) (Or.inl rfl) ha
theorem s1_111 (h0 : a ≠ 0) : wp 1 111 [.inr (.inl a), l1] [] h Q ↔ wp 1 112 [.inr (.inl a), l1] [.inr (.inl a)] h Q := wp_step dX0_copyFrom_111 (fun _ => if_neg h0)
theorem s1_112 (h0 : a ≠ 0) : wp 1 112 [l0, .inr (.inl a)] [v0] h Q ↔ wp 1 113 [l0, .inr (.inl a)] [.inr (.inl a), v0] h Q := wp_step dX0_copyFrom_112 (fun _ => if_neg h0)
theorem s1_113 (ha : tg a = 0) : wp 1 113 [l0, l1] [.inr (.inl a), v0] (hp S D) Q ↔ wp 1 116 [l0, l1] [.inl (D a 12), v0] (hp S D) Q := w_getI dX0_copyFrom_113 (t := 0) (j := 12) (c := 0) (by decide +kernel) (by decide) rfl (ln_ok (by decide) (by decide)) ha
theorem s1_116 (ha : tg a = 0) : wp 1 116 [l0, l1] [.inl z, .inr (.inl a)] (hp S D) Q ↔ wp 1 119 [l0, l1] [] (hp S (up D a 12 z)) Q := w_put dX0_copyFrom_116 (t := 0) (j := 12) (c := 0) (by decide +kernel) (by decide +kernel) (by decide) rfl (ln_ok (by decide) (by decide)) (Or.inl rfl) ha
theorem s1_119  : wp 1 119 [l0, l1] [] h Q ↔ Q none h := w_retv dX0_copyFrom_119 (by decide +kernel)
theorem s2_0 (h0 : a ≠ 0) : wp 2 0 [.inr (.inl a)] [] h Q ↔ wp 2 1 [.inr (.inl a)] [.inr (.inl a)] h Q := wp_step dX0_ticksOfNight_0 (fun _ => if_neg h0)
theorem s2_1 (ha : tg a = 0) : wp 2 1 [l0] [.inr (.inl a)] (hp S D) Q ↔ wp 2 4 [l0] [.inl (D a 7)] (hp S D) Q := w_getI dX0_ticksOfNight_1 (t := 0) (j := 7) (c := 0) (by decide +kernel) (by decide) rfl (ln_ok (by decide) (by decide)) ha
theorem s2_4 (h0 : a ≠ 0) : wp 2 4 [.inr (.inl a)] [v0] h Q ↔ wp 2 5 [.inr (.inl a)] [.inr (.inl a), v0] h Q := wp_step dX0_ticksOfNight_4 (fun _ => if_neg h0)
theorem s2_5 (ha : tg a = 0) : wp 2 5 [l0] [.inr (.inl a), v0] (hp S D) Q ↔ wp 2 8 [l0] [.inl (D a 6), v0] (hp S D) Q := w_getI dX0_ticksOfNight_5 (t := 0) (j := 6) (c := 0) (by decide +kernel) (by decide) rfl (ln_ok (by decide) (by decide)) ha
theorem s2_8  : wp 2 8 [l0] [.inl z, .inl x] h Q ↔ wp 2 9 [l0] [.inl (w32 (x - z))] h Q := wp_step dX0_ticksOfNight_8 (fun _ => rfl)
theorem s2_9  : wp 2 9 [l0] [v0] h Q ↔ wp 2 11 [l0] [.inl 48, v0] h Q := w_const2 dX0_ticksOfNight_9 k_48 k8_48
theorem s2_11  : wp 2 11 [l0] [.inl x1, .inl x0] h Q ↔ wp 98 0 [.inl x0, .inl x1, .inr (.inl 0)] [] h (kont 2 14 [l0] [] Q) := w_callS (y2 := 98) (kd := 0) (vs := [.inl x0, .inl x1]) (st := []) dX0_ticksOfNight_11 (by decide +kernel) (by decide) rfl (by decide +kernel) (Nat.le_of_ble_eq_true rfl) (eSm_4 (by simp))
theorem s2_14  : wp 2 14 [l0] [.inl x] h Q ↔ Q (some (.inl x)) h := w_reti dX0_ticksOfNight_14 (e_ri (by decide +kernel))
theorem s3_0 (h0 : a ≠ 0) : wp 3 0 [.inr (.inl a)] [] h Q ↔ wp 3 1 [.inr (.inl a)] [.inr (.inl a)] h Q := wp_step dX0_isNight_0 (fun _ => if_neg h0)
theorem s3_1 (ha : tg a = 0) : wp 3 1 [l0] [.inr (.inl a)] (hp S D) Q ↔ wp 3 4 [l0] [.inl (D a 5)] (hp S D) Q := w_getI dX0_isNight_1 (t := 0) (j := 5) (c := 0) (by decide +kernel) (by decide) rfl (ln_ok (by decide) (by decide)) ha
theorem s3_4 (h0 : a ≠ 0) : wp 3 4 [.inr (.inl a)] [v0] h Q ↔ wp 3 5 [.inr (.inl a)] [.inr (.inl a), v0] h Q := wp_step dX0_isNight_4 (fun _ => if_neg h0)
theorem s3_5 (ha : tg a = 0) : wp 3 5 [l0] [.inr (.inl a), v0] (hp S D) Q ↔ wp 3 8 [l0] [.inl (D a 6), v0] (hp S D) Q := w_getI dX0_isNight_5 (t := 0) (j := 6) (c := 0) (by decide +kernel) (by decide) rfl (ln_ok (by decide) (by decide)) ha
theorem s3_8  : wp 3 8 [l0] [.inl z, .inl x] h Q ↔ wp 3 9 [l0] [.inl (w32 (x - z))] h Q := wp_step dX0_isNight_8 (fun _ => rfl)
theorem s3_9  : wp 3 9 [l0] [v0] h Q ↔ wp 3 11 [l0] [.inl 48, v0] h Q := w_const2 dX0_isNight_9 k_48 k8_48
theorem s3_11  : wp 3 11 [l0] [.inl x1, .inl x0] h Q ↔ wp 98 0 [.inl x0, .inl x1, .inr (.inl 0)] [] h (kont 3 14 [l0] [] Q) := w_callS (y2 := 98) (kd := 0) (vs := [.inl x0, .inl x1]) (st := []) dX0_isNight_11 (by decide +kernel) (by decide) rfl (by decide +kernel) (Nat.le_of_ble_eq_true rfl) (eSm_4 (by simp))
theorem s3_14 (h0 : a ≠ 0) : wp 3 14 [.inr (.inl a)] [v0] h Q ↔ wp 3 15 [.inr (.inl a)] [.inr (.inl a), v0] h Q := wp_step dX0_isNight_14 (fun _ => if_neg h0)
theorem s3_15 (ha : tg a = 0) : wp 3 15 [l0] [.inr (.inl a), v0] (hp S D) Q ↔ wp 2 0 [.inr (.inl a)] [] (hp S D) (kont 3 18 [l0] [v0] Q) := w_callV (y2 := 2) (vs := []) (st := [v0]) dX0_isNight_15 (by decide +kernel) rfl (by decide +kernel) (Nat.le_of_ble_eq_true rfl) (eSm_4 (by simp)) 0 rfl (by decide) ha
theorem s3_18  : wp 3 18 [l0] [.inl z, .inl x] h Q ↔ if x < z then wp 3 21 [l0] [] h Q else wp 3 25 [l0] [] h Q := w_cge dX0_isNight_18 (by decide)
theorem s3_21  : wp 3 21 [l0] [] h Q ↔ wp 3 22 [l0] [.inl 1] h Q := w_const1 dX0_isNight_21 k_1
theorem s3_22  : wp 3 22 [l0] [v0] h Q ↔ wp 3 26 [l0] [v0] h Q := w_goto dX0_isNight_22 (by decide)
theorem s3_25  : wp 3 25 [l0] [] h Q ↔ wp 3 26 [l0] [.inl 0] h Q := w_const1 dX0_isNight_25 k_0
theorem s3_26 (h0 : x = 0 ∨ x = 1) : wp 3 26 [l0] [.inl x] h Q ↔ Q (some (.inl x)) h := w_reti dX0_isNight_26 (e_rz (by decide +kernel) h0)
theorem s4_0 (h0 : a ≠ 0) : wp 4 0 [.inr (.inl a), l1, l2, l3] [] h Q ↔ wp 4 1 [.inr (.inl a), l1, l2, l3] [.inr (.inl a)] h Q := wp_step dX0_passTick_0 (fun _ => if_neg h0)
theorem s4_1 (ha : tg a = 0) : wp 4 1 [l0, l1, l2, l3] [.inr (.inl a)] (hp S D) Q ↔ wp 3 0 [.inr (.inl a)] [] (hp S D) (kont 4 4 [l0, l1, l2, l3] [] Q) := w_callV (y2 := 3) (vs := []) (st := []) dX0_passTick_1 (by decide +kernel) rfl (by decide +kernel) (Nat.le_of_ble_eq_true rfl) (eSm_4 (by simp)) 0 rfl (by decide) ha
theorem s4_4  : wp 4 4 [l0, l1, l2, l3] [.inl x] h Q ↔ wp 4 5 [l0, l1, .inl x, l3] [] h Q := wp_step dX0_passTick_4 (fun _ => rfl)
theorem s4_5  : wp 4 5 [l0, l1, l2, l3] [] h Q ↔ wp 4 6 [l0, l1, l2, l3] [.inl 0] h Q := w_const1 dX0_passTick_5 k_0
theorem s4_6  : wp 4 6 [l0, l1, l2, l3] [.inl x] h Q ↔ wp 4 7 [l0, l1, l2, .inl x] [] h Q := wp_step dX0_passTick_6 (fun _ => rfl)
theorem s4_7 (h0 : a ≠ 0) : wp 4 7 [.inr (.inl a), l1, l2, l3] [] h Q ↔ wp 4 8 [.inr (.inl a), l1, l2, l3] [.inr (.inl a)] h Q := wp_step dX0_passTick_7 (fun _ => if_neg h0)
theorem s4_8 (ha : tg a = 0) : wp 4 8 [l0, l1, l2, l3] [.inr (.inl a)] (hp S D) Q ↔ wp 4 11 [l0, l1, l2, l3] [.inr (.inl (a + 3))] (hp S D) Q := w_getR dX0_passTick_8 (t := 0) (j := 2) (c := 2) (by decide +kernel) (by decide) rfl (ln_ok (by decide) (by decide)) ha
theorem s4_11 (ha : tg a = 6) : wp 4 11 [l0, l1, l2, l3] [.inr (.inl a)] (hp S D) Q ↔ wp 60 0 [.inr (.inl a)] [] (hp S D) (kont 4 14 [l0, l1, l2, l3] [] Q) := w_callV (y2 := 60) (vs := []) (st := []) dX0_passTick_11 (by decide +kernel) rfl (by decide +kernel) (Nat.le_of_ble_eq_true rfl) (eSm_4 (by simp)) 6 rfl (by decide) ha
theorem s4_14 (h0 : a ≠ 0) : wp 4 14 [.inr (.inl a), l1, l2, l3] [] h Q ↔ wp 4 15 [.inr (.inl a), l1, l2, l3] [.inr (.inl a)] h Q := wp_step dX0_passTick_14 (fun _ => if_neg h0)
theorem s4_15 (ha : tg a = 0) : wp 4 15 [l0, l1, l2, l3] [.inr (.inl a)] (hp S D) Q ↔ wp 4 18 [l0, l1, l2, l3] [.inr (.inl (a + 3))] (hp S D) Q := w_getR dX0_passTick_15 (t := 0) (j := 2) (c := 2) (by decide +kernel) (by decide) rfl (ln_ok (by decide) (by decide)) ha
theorem s4_18 (ha : tg a = 6) : wp 4 18 [l0, l1, l2, l3] [.inr (.inl a)] (hp S D) Q ↔ wp 58 0 [.inr (.inl a)] [] (hp S D) (kont 4 21 [l0, l1, l2, l3] [] Q) := w_callV (y2 := 58) (vs := []) (st := []) dX0_passTick_18 (by decide +kernel) rfl (by decide +kernel) (Nat.le_of_ble_eq_true rfl) (eSm_4 (by simp)) 6 rfl (by decide) ha
theorem s4_21  : wp 4 21 [l0, l1, l2, l3] [.inl x] h Q ↔ if x = 0 then wp 4 24 [l0, l1, l2, l3] [] h Q else wp 4 40 [l0, l1, l2, l3] [] h Q := w_ne0 dX0_passTick_21 (by decide)
theorem s4_24  : wp 4 24 [l0, l1, .inl x, l3] [] h Q ↔ wp 4 25 [l0, l1, .inl x, l3] [.inl x] h Q := wp_step dX0_passTick_24 (fun _ => rfl)
theorem s4_25  : wp 4 25 [l0, l1, l2, l3] [.inl x] h Q ↔ if x = 0 then wp 4 36 [l0, l1, l2, l3] [] h Q else wp 4 28 [l0, l1, l2, l3] [] h Q := w_eq0 dX0_passTick_25 (by decide)
theorem s4_28 (h0 : a ≠ 0) : wp 4 28 [.inr (.inl a), l1, l2, l3] [] h Q ↔ wp 4 29 [.inr (.inl a), l1, l2, l3] [.inr (.inl a)] h Q := wp_step dX0_passTick_28 (fun _ => if_neg h0)
theorem s4_29 (ha : tg a = 0) : wp 4 29 [l0, l1, l2, l3] [.inr (.inl a)] (hp S D) Q ↔ wp 5 0 [.inr (.inl a), .inr (.inl 0), .inr (.inl 0)] [] (hp S D) (kont 4 32 [l0, l1, l2, l3] [] Q) := w_callV (y2 := 5) (vs := []) (st := []) dX0_passTick_29 (by decide +kernel) rfl (by decide +kernel) (Nat.le_of_ble_eq_true rfl) (eSm_4 (by simp)) 0 rfl (by decide) ha
theorem s4_32  : wp 4 32 [l0, l1, l2, l3] [.inl x] h Q ↔ wp 4 33 [l0, l1, l2, .inl x] [] h Q := wp_step dX0_passTick_32 (fun _ => rfl)
theorem s4_33  : wp 4 33 [l0, l1, l2, l3] [] h Q ↔ wp 4 40 [l0, l1, l2, l3] [] h Q := w_goto dX0_passTick_33 (by decide)
theorem s4_36 (h0 : a ≠ 0) : wp 4 36 [.inr (.inl a), l1, l2, l3] [] h Q ↔ wp 4 37 [.inr (.inl a), l1, l2, l3] [.inr (.inl a)] h Q := wp_step dX0_passTick_36 (fun _ => if_neg h0)
theorem s4_37 (ha : tg a = 0) : wp 4 37 [l0, l1, l2, l3] [.inr (.inl a)] (hp S D) Q ↔ wp 7 0 [.inr (.inl a), .inr (.inl 0)] [] (hp S D) (kont 4 40 [l0, l1, l2, l3] [] Q) := w_callV (y2 := 7) (vs := []) (st := []) dX0_passTick_37 (by decide +kernel) rfl (by decide +kernel) (Nat.le_of_ble_eq_true rfl) (eSm_4 (by simp)) 0 rfl (by decide) ha
theorem s4_40  : wp 4 40 [l0, l1, .inl x, l3] [] h Q ↔ wp 4 41 [l0, l1, .inl x, l3] [.inl x] h Q := wp_step dX0_passTick_40 (fun _ => rfl)
theorem s4_41  : wp 4 41 [l0, l1, l2, l3] [.inl x] h Q ↔ if x = 0 then wp 4 49 [l0, l1, l2, l3] [] h Q else wp 4 44 [l0, l1, l2, l3] [] h Q := w_eq0 dX0_passTick_41 (by decide)
theorem s4_44 (h0 : a ≠ 0) : wp 4 44 [.inr (.inl a), l1, l2, l3] [] h Q ↔ wp 4 45 [.inr (.inl a), l1, l2, l3] [.inr (.inl a)] h Q := wp_step dX0_passTick_44 (fun _ => if_neg h0)
theorem s4_45  : wp 4 45 [l0, l1, l2, .inl x] [v0] h Q ↔ wp 4 46 [l0, l1, l2, .inl x] [.inl x, v0] h Q := wp_step dX0_passTick_45 (fun _ => rfl)
theorem s4_46 (ha : tg a = 0) : wp 4 46 [l0, l1, l2, l3] [.inl x0, .inr (.inl a)] (hp S D) Q ↔ wp 10 0 [.inr (.inl a), .inl x0] [] (hp S D) (kont 4 49 [l0, l1, l2, l3] [] Q) := w_callV (y2 := 10) (vs := [.inl x0]) (st := []) dX0_passTick_46 (by decide +kernel) rfl (by decide +kernel) (Nat.le_of_ble_eq_true rfl) (eSm_4 (by simp)) 0 rfl (by decide) ha
theorem s4_49  : wp 4 49 [l0, .inl x, l2, l3] [] h Q ↔ wp 4 50 [l0, .inl x, l2, l3] [.inl x] h Q := wp_step dX0_passTick_49 (fun _ => rfl)
theorem s4_50  : wp 4 50 [l0, l1, l2, l3] [.inl x] h Q ↔ if x = 0 then wp 4 57 [l0, l1, l2, l3] [] h Q else wp 4 53 [l0, l1, l2, l3] [] h Q := w_eq0 dX0_passTick_50 (by decide)
theorem s4_53 (h0 : a ≠ 0) : wp 4 53 [.inr (.inl a), l1, l2, l3] [] h Q ↔ wp 4 54 [.inr (.inl a), l1, l2, l3] [.inr (.inl a)] h Q := wp_step dX0_passTick_53 (fun _ => if_neg h0)
theorem s4_54 (ha : tg a = 0) : wp 4 54 [l0, l1, l2, l3] [.inr (.inl a)] (hp S D) Q ↔ wp 11 0 [.inr (.inl a), .inr (.inl 0), .inr (.inl 0), .inr (.inl 0)] [] (hp S D) (kont 4 57 [l0, l1, l2, l3] [] Q) := w_callV (y2 := 11) (vs := []) (st := []) dX0_passTick_54 (by decide +kernel) rfl (by decide +kernel) (Nat.le_of_ble_eq_true rfl) (eSm_4 (by simp)) 0 rfl (by decide) ha
theorem s4_57 (h0 : a ≠ 0) : wp 4 57 [.inr (.inl a), l1, l2, l3] [] h Q ↔ wp 4 58 [.inr (.inl a), l1, l2, l3] [.inr (.inl a)] h Q := wp_step dX0_passTick_57 (fun _ => if_neg h0)
theorem s4_58  : wp 4 58 [l0, l1, l2, l3] [.inr (.inl a0)] h Q ↔ wp 4 59 [l0, l1, l2, l3] [.inr (.inl a0), .inr (.inl a0)] h Q := wp_step dX0_passTick_58 (fun _ => rfl)
theorem s4_59 (ha : tg a = 0) : wp 4 59 [l0, l1, l2, l3] [.inr (.inl a), v0] (hp S D) Q ↔ wp 4 62 [l0, l1, l2, l3] [.inl (D a 5), v0] (hp S D) Q := w_getI dX0_passTick_59 (t := 0) (j := 5) (c := 0) (by decide +kernel) (by decide) rfl (ln_ok (by decide) (by decide)) ha
theorem s4_62  : wp 4 62 [l0, l1, l2, l3] [v0, v1] h Q ↔ wp 4 63 [l0, l1, l2, l3] [.inl 1, v0, v1] h Q := w_const1 dX0_passTick_62 k_1
theorem s4_63  : wp 4 63 [l0, l1, l2, l3] [.inl z, .inl x, v0] h Q ↔ wp 4 64 [l0, l1, l2, l3] [.inl (w32 (x + z)), v0] h Q := wp_step dX0_passTick_63 (fun _ => rfl)
theorem s4_64 (ha : tg a = 0) : wp 4 64 [l0, l1, l2, l3] [.inl z, .inr (.inl a)] (hp S D) Q ↔ wp 4 67 [l0, l1, l2, l3] [] (hp S (up D a 5 z)) Q := w_put dX0_passTick_64 (t := 0) (j := 5) (c := 0) (by decide +kernel) (by decide +kernel) (by decide) rfl (ln_ok (by decide) (by decide)) (Or.inl rfl) ha
theorem s4_67  : wp 4 67 [l0, l1, .inl x, l3] [] h Q ↔ wp 4 68 [l0, l1, .inl x, l3] [.inl x] h Q := wp_step dX0_passTick_67 (fun _ => rfl)
theorem s4_68  : wp 4 68 [l0, l1, l2, l3] [.inl x] h Q ↔ if x = 0 then wp 4 79 [l0, l1, l2, l3] [] h Q else wp 4 71 [l0, l1, l2, l3] [] h Q := w_eq0 dX0_passTick_68 (by decide)
theorem s4_71  : wp 4 71 [l0, l1, l2, .inl x] [] h Q ↔ wp 4 72 [l0, l1, l2, .inl x] [.inl x] h Q := wp_step dX0_passTick_71 (fun _ => rfl)
theorem s4_72  : wp 4 72 [l0, l1, l2, l3] [.inl x] h Q ↔ if x = 0 then wp 4 75 [l0, l1, l2, l3] [] h Q else wp 4 79 [l0, l1, l2, l3] [] h Q := w_ne0 dX0_passTick_72 (by decide)
theorem s4_75  : wp 4 75 [l0, l1, l2, l3] [] h Q ↔ wp 4 76 [l0, l1, l2, l3] [.inl 1] h Q := w_const1 dX0_passTick_75 k_1
theorem s4_76  : wp 4 76 [l0, l1, l2, l3] [v0] h Q ↔ wp 4 80 [l0, l1, l2, l3] [v0] h Q := w_goto dX0_passTick_76 (by decide)
theorem s4_79  : wp 4 79 [l0, l1, l2, l3] [] h Q ↔ wp 4 80 [l0, l1, l2, l3] [.inl 0] h Q := w_const1 dX0_passTick_79 k_0
theorem s4_80 (h0 : x = 0 ∨ x = 1) : wp 4 80 [l0, l1, l2, l3] [.inl x] h Q ↔ Q (some (.inl x)) h := w_reti dX0_passTick_80 (e_rz (by decide +kernel) h0)
theorem s5_0 (h0 : a ≠ 0) : wp 5 0 [.inr (.inl a), l1, l2] [] h Q ↔ wp 5 1 [.inr (.inl a), l1, l2] [.inr (.inl a)] h Q := wp_step dX0_shine_0 (fun _ => if_neg h0)
theorem s5_1 (ha : tg a = 0) : wp 5 1 [l0, l1, l2] [.inr (.inl a)] (hp S D) Q ↔ wp 5 4 [l0, l1, l2] [.inr (.inl (a + 3))] (hp S D) Q := w_getR dX0_shine_1 (t := 0) (j := 2) (c := 2) (by decide +kernel) (by decide) rfl (ln_ok (by decide) (by decide)) ha
theorem s5_4 (h0 : a ≠ 0) : wp 5 4 [.inr (.inl a), l1, l2] [v0] h Q ↔ wp 5 5 [.inr (.inl a), l1, l2] [.inr (.inl a), v0] h Q := wp_step dX0_shine_4 (fun _ => if_neg h0)
theorem s5_5 (ha : tg a = 0) : wp 5 5 [l0, l1, l2] [.inr (.inl a), v0] (hp S D) Q ↔ wp 5 8 [l0, l1, l2] [.inr (.inl (a + 3)), v0] (hp S D) Q := w_getR dX0_shine_5 (t := 0) (j := 2) (c := 2) (by decide +kernel) (by decide) rfl (ln_ok (by decide) (by decide)) ha
theorem s5_8 (ha : tg a = 6) : wp 5 8 [l0, l1, l2] [.inr (.inl a), v0] (hp S D) Q ↔ wp 5 11 [l0, l1, l2] [.inl (D a 2), v0] (hp S D) Q := w_getI dX0_shine_8 (t := 6) (j := 2) (c := 0) (by decide +kernel) (by decide) rfl (ln_ok (by decide) (by decide)) ha
theorem s5_11 (ha : tg a = 6) : wp 5 11 [l0, l1, l2] [.inl x0, .inr (.inl a)] (hp S D) Q ↔ wp 56 0 [.inr (.inl a), .inl x0, .inr (.inl 0)] [] (hp S D) (kont 5 14 [l0, l1, l2] [] Q) := w_callV (y2 := 56) (vs := [.inl x0]) (st := []) dX0_shine_11 (by decide +kernel) rfl (by decide +kernel) (Nat.le_of_ble_eq_true rfl) (eSm_4 (by simp)) 6 rfl (by decide) ha
theorem s5_14 (h0 : a ≠ 0) : wp 5 14 [l0, l1, l2] [.inr (.inl a)] h Q ↔ wp 5 15 [l0, .inr (.inl a), l2] [] h Q := wp_step dX0_shine_14 (fun _ => (if_neg h0).trans rfl)
theorem s5_15 (h0 : a ≠ 0) : wp 5 15 [l0, .inr (.inl a), l2] [] h Q ↔ wp 5 16 [l0, .inr (.inl a), l2] [.inr (.inl a)] h Q := wp_step dX0_shine_15 (fun _ => if_neg h0)
theorem s5_16 (ha : tg a = 3) : wp 5 16 [l0, l1, l2] [.inr (.inl a)] (hp S D) Q ↔ wp 29 0 [.inr (.inl a)] [] (hp S D) (kont 5 19 [l0, l1, l2] [] Q) := w_callV (y2 := 29) (vs := []) (st := []) dX0_shine_16 (by decide +kernel) rfl (by decide +kernel) (Nat.le_of_ble_eq_true rfl) (eSm_4 (by simp)) 3 rfl (by decide) ha
theorem s5_19  : wp 5 19 [l0, l1, l2] [.inl x] h Q ↔ if x = 0 then wp 5 28 [l0, l1, l2] [] h Q else wp 5 22 [l0, l1, l2] [] h Q := w_eq0 dX0_shine_19 (by decide)
theorem s5_22 (h0 : a ≠ 0) : wp 5 22 [.inr (.inl a), l1, l2] [] h Q ↔ wp 5 23 [.inr (.inl a), l1, l2] [.inr (.inl a)] h Q := wp_step dX0_shine_22 (fun _ => if_neg h0)
theorem s5_23 (h0 : a ≠ 0) : wp 5 23 [l0, .inr (.inl a), l2] [v0] h Q ↔ wp 5 24 [l0, .inr (.inl a), l2] [.inr (.inl a), v0] h Q := wp_step dX0_shine_23 (fun _ => if_neg h0)
theorem s5_24 (ha : tg a = 0) : wp 5 24 [l0, l1, l2] [.inr (.inl a0), .inr (.inl a)] (hp S D) Q ↔ wp 6 0 [.inr (.inl a), .inr (.inl a0), .inr (.inl 0)] [] (hp S D) (kont 5 27 [l0, l1, l2] [] Q) := w_callV (y2 := 6) (vs := [.inr (.inl a0)]) (st := []) dX0_shine_24 (by decide +kernel) rfl (by decide +kernel) (Nat.le_of_ble_eq_true rfl) (eSm_4 (by simp)) 0 rfl (by decide) ha
theorem s5_27 (h0 : x = 0 ∨ x = 1) : wp 5 27 [l0, l1, l2] [.inl x] h Q ↔ Q (some (.inl x)) h := w_reti dX0_shine_27 (e_rz (by decide +kernel) h0)
theorem s5_28 (h0 : a ≠ 0) : wp 5 28 [.inr (.inl a), l1, l2] [] h Q ↔ wp 5 29 [.inr (.inl a), l1, l2] [.inr (.inl a)] h Q := wp_step dX0_shine_28 (fun _ => if_neg h0)
theorem s5_29 (ha : tg a = 0) : wp 5 29 [l0, l1, l2] [.inr (.inl a)] (hp S D) Q ↔ wp 5 32 [l0, l1, l2] [.inr (.inl (a + 3))] (hp S D) Q := w_getR dX0_shine_29 (t := 0) (j := 2) (c := 2) (by decide +kernel) (by decide) rfl (ln_ok (by decide) (by decide)) ha
theorem s5_32 (ha : tg a = 6) : wp 5 32 [l0, l1, l2] [.inr (.inl a)] (hp S D) Q ↔ wp 61 0 [.inr (.inl a), .inr (.inl 0), .inr (.inl 0), .inr (.inl 0), .inr (.inl 0)] [] (hp S D) (kont 5 35 [l0, l1, l2] [] Q) := w_callV (y2 := 61) (vs := []) (st := []) dX0_shine_32 (by decide +kernel) rfl (by decide +kernel) (Nat.le_of_ble_eq_true rfl) (eSm_4 (by simp)) 6 rfl (by decide) ha
theorem s5_35  : wp 5 35 [l0, l1, l2] [.inl x] h Q ↔ wp 5 36 [l0, l1, .inl x] [] h Q := wp_step dX0_shine_35 (fun _ => rfl)
theorem s5_36  : wp 5 36 [l0, l1, .inl x] [] h Q ↔ wp 5 37 [l0, l1, .inl x] [.inl x] h Q := wp_step dX0_shine_36 (fun _ => rfl)
theorem s5_37  : wp 5 37 [l0, l1, l2] [v0] h Q ↔ wp 5 39 [l0, l1, l2] [.inl (-5), v0] h Q := w_const2 dX0_shine_37 k_m5 k8_m5
theorem s5_39  : wp 5 39 [l0, l1, l2] [.inl z, .inl x] h Q ↔ if x = z then wp 5 59 [l0, l1, l2] [] h Q else wp 5 42 [l0, l1, l2] [] h Q := w_ceq dX0_shine_39 (by decide)
theorem s5_42  : wp 5 42 [l0, l1, .inl x] [] h Q ↔ wp 5 43 [l0, l1, .inl x] [.inl x] h Q := wp_step dX0_shine_42 (fun _ => rfl)
theorem s5_43 (h0 : a ≠ 0) : wp 5 43 [.inr (.inl a), l1, l2] [v0] h Q ↔ wp 5 44 [.inr (.inl a), l1, l2] [.inr (.inl a), v0] h Q := wp_step dX0_shine_43 (fun _ => if_neg h0)
theorem s5_44 (ha : tg a = 0) : wp 5 44 [l0, l1, l2] [.inr (.inl a), v0] (hp S D) Q ↔ wp 5 47 [l0, l1, l2] [.inr (.inl (a + 3)), v0] (hp S D) Q := w_getR dX0_shine_44 (t := 0) (j := 2) (c := 2) (by decide +kernel) (by decide) rfl (ln_ok (by decide) (by decide)) ha
theorem s5_47 (ha : tg a = 6) : wp 5 47 [l0, l1, l2] [.inr (.inl a), v0] (hp S D) Q ↔ wp 5 50 [l0, l1, l2] [.inl (D a 2), v0] (hp S D) Q := w_getI dX0_shine_47 (t := 6) (j := 2) (c := 0) (by decide +kernel) (by decide) rfl (ln_ok (by decide) (by decide)) ha
theorem s5_50  : wp 5 50 [l0, l1, l2] [.inl z, .inl x] h Q ↔ if x = z then wp 5 59 [l0, l1, l2] [] h Q else wp 5 53 [l0, l1, l2] [] h Q := w_ceq dX0_shine_50 (by decide)
theorem s5_53 (h0 : a ≠ 0) : wp 5 53 [.inr (.inl a), l1, l2] [] h Q ↔ wp 5 54 [.inr (.inl a), l1, l2] [.inr (.inl a)] h Q := wp_step dX0_shine_53 (fun _ => if_neg h0)
theorem s5_54  : wp 5 54 [l0, l1, l2] [v0] h Q ↔ wp 5 55 [l0, l1, l2] [.inl 2, v0] h Q := w_const1 dX0_shine_54 k_2
theorem s5_55  : wp 5 55 [l0, l1, .inl x] [v0, v1] h Q ↔ wp 5 56 [l0, l1, .inl x] [.inl x, v0, v1] h Q := wp_step dX0_shine_55 (fun _ => rfl)
theorem s5_56 (ha : tg a = 0) : wp 5 56 [l0, l1, l2] [.inl x1, .inl x0, .inr (.inl a)] (hp S D) Q ↔ wp 8 0 [.inr (.inl a), .inl x0, .inl x1] [] (hp S D) (kont 5 59 [l0, l1, l2] [] Q) := w_callV (y2 := 8) (vs := [.inl x0, .inl x1]) (st := []) dX0_shine_56 (by decide +kernel) rfl (by decide +kernel) (Nat.le_of_ble_eq_true rfl) (eSm_4 (by simp)) 0 rfl (by decide) ha
theorem s5_59  : wp 5 59 [l0, l1, l2] [] h Q ↔ wp 5 60 [l0, l1, l2] [.inl 0] h Q := w_const1 dX0_shine_59 k_0
theorem s5_60 (h0 : x = 0 ∨ x = 1) : wp 5 60 [l0, l1, l2] [.inl x] h Q ↔ Q (some (.inl x)) h := w_reti dX0_shine_60 (e_rz (by decide +kernel) h0)
theorem s6_0 (h0 : a ≠ 0) : wp 6 0 [.inr (.inl a), l1, l2] [] h Q ↔ wp 6 1 [.inr (.inl a), l1, l2] [.inr (.inl a)] h Q := wp_step dX0_burn_0 (fun _ => if_neg h0)
theorem s6_1 (ha : tg a = 0) : wp 6 1 [l0, l1, l2] [.inr (.inl a)] (hp S D) Q ↔ wp 6 4 [l0, l1, l2] [.inr (.inl (a + 3))] (hp S D) Q := w_getR dX0_burn_1 (t := 0) (j := 2) (c := 2) (by decide +kernel) (by decide) rfl (ln_ok (by decide) (by decide)) ha
theorem s6_4 (ha : tg a = 6) : wp 6 4 [l0, l1, l2] [.inr (.inl a)] (hp S D) Q ↔ wp 6 7 [l0, l1, l2] [.inl (D a 5)] (hp S D) Q := w_getI dX0_burn_4 (t := 6) (j := 5) (c := 1) (by decide +kernel) (by decide) rfl (ln_ok (by decide) (by decide)) ha
theorem s6_7  : wp 6 7 [l0, l1, l2] [.inl x] h Q ↔ if x = 0 then wp 6 10 [l0, l1, l2] [] h Q else wp 6 14 [l0, l1, l2] [] h Q := w_ne0 dX0_burn_7 (by decide)
theorem s6_10 (h0 : a ≠ 0) : wp 6 10 [l0, .inr (.inl a), l2] [] h Q ↔ wp 6 11 [l0, .inr (.inl a), l2] [.inr (.inl a)] h Q := wp_step dX0_burn_10 (fun _ => if_neg h0)
theorem s6_11 (ha : tg a = 3) : wp 6 11 [l0, l1, l2] [.inr (.inl a)] (hp S D) Q ↔ wp 33 0 [.inr (.inl a)] [] (hp S D) (kont 6 14 [l0, l1, l2] [] Q) := w_callV (y2 := 33) (vs := []) (st := []) dX0_burn_11 (by decide +kernel) rfl (by decide +kernel) (Nat.le_of_ble_eq_true rfl) (eSm_4 (by simp)) 3 rfl (by decide) ha
theorem s6_14 (h0 : a ≠ 0) : wp 6 14 [l0, .inr (.inl a), l2] [] h Q ↔ wp 6 15 [l0, .inr (.inl a), l2] [.inr (.inl a)] h Q := wp_step dX0_burn_14 (fun _ => if_neg h0)
theorem s6_15 (ha : tg a = 3) : wp 6 15 [l0, l1, l2] [.inr (.inl a)] (hp S D) Q ↔ wp 28 0 [.inr (.inl a)] [] (hp S D) (kont 6 18 [l0, l1, l2] [] Q) := w_callV (y2 := 28) (vs := []) (st := []) dX0_burn_15 (by decide +kernel) rfl (by decide +kernel) (Nat.le_of_ble_eq_true rfl) (eSm_4 (by simp)) 3 rfl (by decide) ha
theorem s6_18  : wp 6 18 [l0, l1, l2] [.inl x] h Q ↔ if x = 0 then wp 6 21 [l0, l1, l2] [] h Q else wp 6 25 [l0, l1, l2] [] h Q := w_ne0 dX0_burn_18 (by decide)
theorem s6_21  : wp 6 21 [l0, l1, l2] [] h Q ↔ wp 6 22 [l0, l1, l2] [.inl 1] h Q := w_const1 dX0_burn_21 k_1
theorem s6_22  : wp 6 22 [l0, l1, l2] [v0] h Q ↔ wp 6 26 [l0, l1, l2] [v0] h Q := w_goto dX0_burn_22 (by decide)
theorem s6_25  : wp 6 25 [l0, l1, l2] [] h Q ↔ wp 6 26 [l0, l1, l2] [.inl 0] h Q := w_const1 dX0_burn_25 k_0
theorem s6_26  : wp 6 26 [l0, l1, l2] [.inl x] h Q ↔ wp 6 27 [l0, l1, .inl x] [] h Q := wp_step dX0_burn_26 (fun _ => rfl)
theorem s6_27  : wp 6 27 [l0, l1, .inl x] [] h Q ↔ wp 6 28 [l0, l1, .inl x] [.inl x] h Q := wp_step dX0_burn_27 (fun _ => rfl)
theorem s6_28  : wp 6 28 [l0, l1, l2] [.inl x] h Q ↔ if x = 0 then wp 6 66 [l0, l1, l2] [] h Q else wp 6 31 [l0, l1, l2] [] h Q := w_eq0 dX0_burn_28 (by decide)
theorem s6_31 (h0 : a ≠ 0) : wp 6 31 [l0, .inr (.inl a), l2] [] h Q ↔ wp 6 32 [l0, .inr (.inl a), l2] [.inr (.inl a)] h Q := wp_step dX0_burn_31 (fun _ => if_neg h0)
theorem s6_32 (h0 : a ≠ 0) : wp 6 32 [.inr (.inl a), l1, l2] [v0] h Q ↔ wp 6 33 [.inr (.inl a), l1, l2] [.inr (.inl a), v0] h Q := wp_step dX0_burn_32 (fun _ => if_neg h0)
theorem s6_33 (ha : tg a = 0) : wp 6 33 [l0, l1, l2] [.inr (.inl a), v0] (hp S D) Q ↔ wp 6 36 [l0, l1, l2] [.inr (.inl (a + 1)), v0] (hp S D) Q := w_getR dX0_burn_33 (t := 0) (j := 0) (c := 2) (by decide +kernel) (by decide) rfl (ln_ok (by decide) (by decide)) ha
theorem s6_36  : wp 6 36 [l0, l1, l2] [v0, v1] h Q ↔ wp 6 37 [l0, l1, l2] [.inl 0, v0, v1] h Q := w_const1 dX0_burn_36 k_0
theorem s6_37  : wp 6 37 [l0, l1, l2] [.inl x1, .inr (.inl a0), v0] h Q ↔ wp 51 0 [.inr (.inl a0), .inl x1] [] h (kont 6 40 [l0, l1, l2] [v0] Q) := w_callS (y2 := 51) (kd := 0) (vs := [.inr (.inl a0), .inl x1]) (st := [v0]) dX0_burn_37 (by decide +kernel) (by decide) rfl (by decide +kernel) (Nat.le_of_ble_eq_true rfl) (eSm_4 (by simp))
theorem s6_40 (h0 : a ≠ 0) : wp 6 40 [.inr (.inl a), l1, l2] [v0, v1] h Q ↔ wp 6 41 [.inr (.inl a), l1, l2] [.inr (.inl a), v0, v1] h Q := wp_step dX0_burn_40 (fun _ => if_neg h0)
theorem s6_41 (ha : tg a = 0) : wp 6 41 [l0, l1, l2] [.inr (.inl a), v0, v1] (hp S D) Q ↔ wp 6 44 [l0, l1, l2] [.inr (.inl (a + 1)), v0, v1] (hp S D) Q := w_getR dX0_burn_41 (t := 0) (j := 0) (c := 2) (by decide +kernel) (by decide) rfl (ln_ok (by decide) (by decide)) ha
theorem s6_44  : wp 6 44 [l0, l1, l2] [v0, v1, v2] h Q ↔ wp 6 45 [l0, l1, l2] [.inl 1, v0, v1, v2] h Q := w_const1 dX0_burn_44 k_1
theorem s6_45  : wp 6 45 [l0, l1, l2] [.inl x1, .inr (.inl a0), v0, v1] h Q ↔ wp 51 0 [.inr (.inl a0), .inl x1] [] h (kont 6 48 [l0, l1, l2] [v0, v1] Q) := w_callS (y2 := 51) (kd := 0) (vs := [.inr (.inl a0), .inl x1]) (st := [v0, v1]) dX0_burn_45 (by decide +kernel) (by decide) rfl (by decide +kernel) (Nat.le_of_ble_eq_true rfl) (eSm_4 (by simp))
theorem s6_48 (ha : tg a = 3) : wp 6 48 [l0, l1, l2] [.inl x1, .inl x0, .inr (.inl a)] (hp S D) Q ↔ wp 34 0 [.inr (.inl a), .inl x0, .inl x1, .inr (.inl 0), .inr (.inl 0)] [] (hp S D) (kont 6 51 [l0, l1, l2] [] Q) := w_callV (y2 := 34) (vs := [.inl x0, .inl x1]) (st := []) dX0_burn_48 (by decide +kernel) rfl (by decide +kernel) (Nat.le_of_ble_eq_true rfl) (eSm_4 (by simp)) 3 rfl (by decide) ha
theorem s6_51  : wp 6 51 [l0, l1, l2] [.inl x] h Q ↔ if x = 0 then wp 6 66 [l0, l1, l2] [] h Q else wp 6 54 [l0, l1, l2] [] h Q := w_eq0 dX0_burn_51 (by decide)
theorem s6_54 (h0 : a ≠ 0) : wp 6 54 [.inr (.inl a), l1, l2] [] h Q ↔ wp 6 55 [.inr (.inl a), l1, l2] [.inr (.inl a)] h Q := wp_step dX0_burn_54 (fun _ => if_neg h0)
theorem s6_55  : wp 6 55 [l0, l1, l2] [v0] h Q ↔ wp 6 56 [l0, l1, l2] [.inl 1, v0] h Q := w_const1 dX0_burn_55 k_1
theorem s6_56 (h0 : a ≠ 0) : wp 6 56 [.inr (.inl a), l1, l2] [v0, v1] h Q ↔ wp 6 57 [.inr (.inl a), l1, l2] [.inr (.inl a), v0, v1] h Q := wp_step dX0_burn_56 (fun _ => if_neg h0)
theorem s6_57 (ha : tg a = 0) : wp 6 57 [l0, l1, l2] [.inr (.inl a), v0, v1] (hp S D) Q ↔ wp 6 60 [l0, l1, l2] [.inr (.inl (a + 3)), v0, v1] (hp S D) Q := w_getR dX0_burn_57 (t := 0) (j := 2) (c := 2) (by decide +kernel) (by decide) rfl (ln_ok (by decide) (by decide)) ha
theorem s6_60 (ha : tg a = 6) : wp 6 60 [l0, l1, l2] [.inr (.inl a), v0, v1] (hp S D) Q ↔ wp 6 63 [l0, l1, l2] [.inl (D a 2), v0, v1] (hp S D) Q := w_getI dX0_burn_60 (t := 6) (j := 2) (c := 0) (by decide +kernel) (by decide) rfl (ln_ok (by decide) (by decide)) ha
theorem s6_63 (ha : tg a = 0) : wp 6 63 [l0, l1, l2] [.inl x1, .inl x0, .inr (.inl a)] (hp S D) Q ↔ wp 9 0 [.inr (.inl a), .inl x0, .inl x1] [] (hp S D) (kont 6 66 [l0, l1, l2] [] Q) := w_callV (y2 := 9) (vs := [.inl x0, .inl x1]) (st := []) dX0_burn_63 (by decide +kernel) rfl (by decide +kernel) (Nat.le_of_ble_eq_true rfl) (eSm_4 (by simp)) 0 rfl (by decide) ha
theorem s6_66 (h0 : a ≠ 0) : wp 6 66 [.inr (.inl a), l1, l2] [] h Q ↔ wp 6 67 [.inr (.inl a), l1, l2] [.inr (.inl a)] h Q := wp_step dX0_burn_66 (fun _ => if_neg h0)
theorem s6_67 (ha : tg a = 0) : wp 6 67 [l0, l1, l2] [.inr (.inl a)] (hp S D) Q ↔ wp 6 70 [l0, l1, l2] [.inr (.inl (a + 3))] (hp S D) Q := w_getR dX0_burn_67 (t := 0) (j := 2) (c := 2) (by decide +kernel) (by decide) rfl (ln_ok (by decide) (by decide)) ha
theorem s6_70 (h0 : a ≠ 0) : wp 6 70 [l0, .inr (.inl a), l2] [v0] h Q ↔ wp 6 71 [l0, .inr (.inl a), l2] [.inr (.inl a), v0] h Q := wp_step dX0_burn_70 (fun _ => if_neg h0)
theorem s6_71 (ha : tg a = 3) : wp 6 71 [l0, l1, l2] [.inr (.inl a), v0] (hp S D) Q ↔ wp 28 0 [.inr (.inl a)] [] (hp S D) (kont 6 74 [l0, l1, l2] [v0] Q) := w_callV (y2 := 28) (vs := []) (st := [v0]) dX0_burn_71 (by decide +kernel) rfl (by decide +kernel) (Nat.le_of_ble_eq_true rfl) (eSm_4 (by simp)) 3 rfl (by decide) ha
theorem s6_74  : wp 6 74 [l0, l1, l2] [.inl x, v0] h Q ↔ if x = 0 then wp 6 77 [l0, l1, l2] [v0] h Q else wp 6 81 [l0, l1, l2] [v0] h Q := w_ne0 dX0_burn_74 (by decide)
theorem s6_77  : wp 6 77 [l0, l1, l2] [v0] h Q ↔ wp 6 78 [l0, l1, l2] [.inl 1, v0] h Q := w_const1 dX0_burn_77 k_1
theorem s6_78  : wp 6 78 [l0, l1, l2] [v0, v1] h Q ↔ wp 6 82 [l0, l1, l2] [v0, v1] h Q := w_goto dX0_burn_78 (by decide)
theorem s6_81  : wp 6 81 [l0, l1, l2] [v0] h Q ↔ wp 6 82 [l0, l1, l2] [.inl 0, v0] h Q := w_const1 dX0_burn_81 k_0
theorem s6_82 (ha : tg a = 6) (hv : z = 0 ∨ z = 1) : wp 6 82 [l0, l1, l2] [.inl z, .inr (.inl a)] (hp S D) Q ↔ wp 6 85 [l0, l1, l2] [] (hp S (up D a 5 z)) Q := w_put dX0_burn_82 (t := 6) (j := 5) (c := 1) (by decide +kernel) (by decide +kernel) (by decide) rfl (ln_ok (by decide) (by decide)) (Or.inr ⟨rfl, hv⟩) ha
theorem s6_85 (h0 : a ≠ 0) : wp 6 85 [.inr (.inl a), l1, l2] [] h Q ↔ wp 6 86 [.inr (.inl a), l1, l2] [.inr (.inl a)] h Q := wp_step dX0_burn_85 (fun _ => if_neg h0)
theorem s6_86 (ha : tg a = 0) : wp 6 86 [l0, l1, l2] [.inr (.inl a)] (hp S D) Q ↔ wp 6 89 [l0, l1, l2] [.inr (.inl (a + 3))] (hp S D) Q := w_getR dX0_burn_86 (t := 0) (j := 2) (c := 2) (by decide +kernel) (by decide) rfl (ln_ok (by decide) (by decide)) ha
theorem s6_89 (ha : tg a = 6) : wp 6 89 [l0, l1, l2] [.inr (.inl a)] (hp S D) Q ↔ wp 6 92 [l0, l1, l2] [.inl (D a 5)] (hp S D) Q := w_getI dX0_burn_89 (t := 6) (j := 5) (c := 1) (by decide +kernel) (by decide) rfl (ln_ok (by decide) (by decide)) ha
theorem s6_92  : wp 6 92 [l0, l1, l2] [.inl x] h Q ↔ if x = 0 then wp 6 95 [l0, l1, l2] [] h Q else wp 6 107 [l0, l1, l2] [] h Q := w_ne0 dX0_burn_92 (by decide)
theorem s6_95 (h0 : a ≠ 0) : wp 6 95 [.inr (.inl a), l1, l2] [] h Q ↔ wp 6 96 [.inr (.inl a), l1, l2] [.inr (.inl a)] h Q := wp_step dX0_burn_95 (fun _ => if_neg h0)
theorem s6_96  : wp 6 96 [l0, l1, l2] [v0] h Q ↔ wp 6 97 [l0, l1, l2] [.inl 0, v0] h Q := w_const1 dX0_burn_96 k_0
theorem s6_97 (h0 : a ≠ 0) : wp 6 97 [.inr (.inl a), l1, l2] [v0, v1] h Q ↔ wp 6 98 [.inr (.inl a), l1, l2] [.inr (.inl a), v0, v1] h Q := wp_step dX0_burn_97 (fun _ => if_neg h0)
theorem s6_98 (ha : tg a = 0) : wp 6 98 [l0, l1, l2] [.inr (.inl a), v0, v1] (hp S D) Q ↔ wp 6 101 [l0, l1, l2] [.inr (.inl (a + 3)), v0, v1] (hp S D) Q := w_getR dX0_burn_98 (t := 0) (j := 2) (c := 2) (by decide +kernel) (by decide) rfl (ln_ok (by decide) (by decide)) ha
theorem s6_101 (ha : tg a = 6) : wp 6 101 [l0, l1, l2] [.inr (.inl a), v0, v1] (hp S D) Q ↔ wp 6 104 [l0, l1, l2] [.inl (D a 2), v0, v1] (hp S D) Q := w_getI dX0_burn_101 (t := 6) (j := 2) (c := 0) (by decide +kernel) (by decide) rfl (ln_ok (by decide) (by decide)) ha
theorem s6_104 (ha : tg a = 0) : wp 6 104 [l0, l1, l2] [.inl x1, .inl x0, .inr (.inl a)] (hp S D) Q ↔ wp 9 0 [.inr (.inl a), .inl x0, .inl x1] [] (hp S D) (kont 6 107 [l0, l1, l2] [] Q) := w_callV (y2 := 9) (vs := [.inl x0, .inl x1]) (st := []) dX0_burn_104 (by decide +kernel) rfl (by decide +kernel) (Nat.le_of_ble_eq_true rfl) (eSm_4 (by simp)) 0 rfl (by decide) ha
theorem s6_107  : wp 6 107 [l0, l1, .inl x] [] h Q ↔ wp 6 108 [l0, l1, .inl x] [.inl x] h Q := wp_step dX0_burn_107 (fun _ => rfl)
theorem s6_108 (h0 : x = 0 ∨ x = 1) : wp 6 108 [l0, l1, l2] [.inl x] h Q ↔ Q (some (.inl x)) h := w_reti dX0_burn_108 (e_rz (by decide +kernel) h0)
theorem s7_0 (h0 : a ≠ 0) : wp 7 0 [.inr (.inl a), l1] [] h Q ↔ wp 7 1 [.inr (.inl a), l1] [.inr (.inl a)] h Q := wp_step dX0_rest_0 (fun _ => if_neg h0)
theorem s7_1 (ha : tg a = 0) : wp 7 1 [l0, l1] [.inr (.inl a)] (hp S D) Q ↔ wp 7 4 [l0, l1] [.inr (.inl (a + 3))] (hp S D) Q := w_getR dX0_rest_1 (t := 0) (j := 2) (c := 2) (by decide +kernel) (by decide) rfl (ln_ok (by decide) (by decide)) ha
theorem s7_4  : wp 7 4 [l0, l1] [v0] h Q ↔ wp 7 5 [l0, l1] [.inl 0, v0] h Q := w_const1 dX0_rest_4 k_0
theorem s7_5 (ha : tg a = 6) (hv : z = 0 ∨ z = 1) : wp 7 5 [l0, l1] [.inl z, .inr (.inl a)] (hp S D) Q ↔ wp 7 8 [l0, l1] [] (hp S (up D a 5 z)) Q := w_put dX0_rest_5 (t := 6) (j := 5) (c := 1) (by decide +kernel) (by decide +kernel) (by decide) rfl (ln_ok (by decide) (by decide)) (Or.inr ⟨rfl, hv⟩) ha
theorem s7_8 (h0 : a ≠ 0) : wp 7 8 [.inr (.inl a), l1] [] h Q ↔ wp 7 9 [.inr (.inl a), l1] [.inr (.inl a)] h Q := wp_step dX0_rest_8 (fun _ => if_neg h0)
theorem s7_9 (ha : tg a = 0) : wp 7 9 [l0, l1] [.inr (.inl a)] (hp S D) Q ↔ wp 7 12 [l0, l1] [.inr (.inl (a + 3))] (hp S D) Q := w_getR dX0_rest_9 (t := 0) (j := 2) (c := 2) (by decide +kernel) (by decide) rfl (ln_ok (by decide) (by decide)) ha
theorem s7_12 (h0 : a ≠ 0) : wp 7 12 [.inr (.inl a), l1] [v0] h Q ↔ wp 7 13 [.inr (.inl a), l1] [.inr (.inl a), v0] h Q := wp_step dX0_rest_12 (fun _ => if_neg h0)
theorem s7_13 (ha : tg a = 0) : wp 7 13 [l0, l1] [.inr (.inl a), v0] (hp S D) Q ↔ wp 7 16 [l0, l1] [.inr (.inl (a + 3)), v0] (hp S D) Q := w_getR dX0_rest_13 (t := 0) (j := 2) (c := 2) (by decide +kernel) (by decide) rfl (ln_ok (by decide) (by decide)) ha
theorem s7_16 (ha : tg a = 6) : wp 7 16 [l0, l1] [.inr (.inl a), v0] (hp S D) Q ↔ wp 7 19 [l0, l1] [.inl (D a 2), v0] (hp S D) Q := w_getI dX0_rest_16 (t := 6) (j := 2) (c := 0) (by decide +kernel) (by decide) rfl (ln_ok (by decide) (by decide)) ha
theorem s7_19 (ha : tg a = 6) : wp 7 19 [l0, l1] [.inl x0, .inr (.inl a)] (hp S D) Q ↔ wp 56 0 [.inr (.inl a), .inl x0, .inr (.inl 0)] [] (hp S D) (kont 7 22 [l0, l1] [] Q) := w_callV (y2 := 56) (vs := [.inl x0]) (st := []) dX0_rest_19 (by decide +kernel) rfl (by decide +kernel) (Nat.le_of_ble_eq_true rfl) (eSm_4 (by simp)) 6 rfl (by decide) ha
theorem s7_22 (ha : tg a = 3) : wp 7 22 [l0, l1] [.inr (.inl a)] (hp S D) Q ↔ wp 30 0 [.inr (.inl a)] [] (hp S D) (kont 7 25 [l0, l1] [] Q) := w_callV (y2 := 30) (vs := []) (st := []) dX0_rest_22 (by decide +kernel) rfl (by decide +kernel) (Nat.le_of_ble_eq_true rfl) (eSm_4 (by simp)) 3 rfl (by decide) ha
theorem s7_25  : wp 7 25 [l0, l1] [.inl x] h Q ↔ if x = 0 then wp 7 29 [l0, l1] [] h Q else wp 7 28 [l0, l1] [] h Q := w_eq0 dX0_rest_25 (by decide)
theorem s7_28  : wp 7 28 [l0, l1] [] h Q ↔ Q none h := w_retv dX0_rest_28 (by decide +kernel)
theorem s7_29 (h0 : a ≠ 0) : wp 7 29 [.inr (.inl a), l1] [] h Q ↔ wp 7 30 [.inr (.inl a), l1] [.inr (.inl a)] h Q := wp_step dX0_rest_29 (fun _ => if_neg h0)
theorem s7_30 (ha : tg a = 0) : wp 7 30 [l0, l1] [.inr (.inl a)] (hp S D) Q ↔ wp 7 33 [l0, l1] [.inr (.inl (a + 3))] (hp S D) Q := w_getR dX0_rest_30 (t := 0) (j := 2) (c := 2) (by decide +kernel) (by decide) rfl (ln_ok (by decide) (by decide)) ha
theorem s7_33 (ha : tg a = 6) : wp 7 33 [l0, l1] [.inr (.inl a)] (hp S D) Q ↔ wp 61 0 [.inr (.inl a), .inr (.inl 0), .inr (.inl 0), .inr (.inl 0), .inr (.inl 0)] [] (hp S D) (kont 7 36 [l0, l1] [] Q) := w_callV (y2 := 61) (vs := []) (st := []) dX0_rest_33 (by decide +kernel) rfl (by decide +kernel) (Nat.le_of_ble_eq_true rfl) (eSm_4 (by simp)) 6 rfl (by decide) ha
theorem s7_36  : wp 7 36 [l0, l1] [.inl x] h Q ↔ wp 7 37 [l0, .inl x] [] h Q := wp_step dX0_rest_36 (fun _ => rfl)
theorem s7_37 (h0 : a ≠ 0) : wp 7 37 [.inr (.inl a), l1] [] h Q ↔ wp 7 38 [.inr (.inl a), l1] [.inr (.inl a)] h Q := wp_step dX0_rest_37 (fun _ => if_neg h0)
theorem s7_38 (ha : tg a = 0) : wp 7 38 [l0, l1] [.inr (.inl a)] (hp S D) Q ↔ wp 7 41 [l0, l1] [.inr (.inl (a + 3))] (hp S D) Q := w_getR dX0_rest_38 (t := 0) (j := 2) (c := 2) (by decide +kernel) (by decide) rfl (ln_ok (by decide) (by decide)) ha
theorem s7_41  : wp 7 41 [l0, .inl x] [v0] h Q ↔ wp 7 42 [l0, .inl x] [.inl x, v0] h Q := wp_step dX0_rest_41 (fun _ => rfl)
theorem s7_42 (ha : tg a = 6) : wp 7 42 [l0, l1] [.inl x0, .inr (.inl a)] (hp S D) Q ↔ wp 56 0 [.inr (.inl a), .inl x0, .inr (.inl 0)] [] (hp S D) (kont 7 45 [l0, l1] [] Q) := w_callV (y2 := 56) (vs := [.inl x0]) (st := []) dX0_rest_42 (by decide +kernel) rfl (by decide +kernel) (Nat.le_of_ble_eq_true rfl) (eSm_4 (by simp)) 6 rfl (by decide) ha
theorem s7_45 (ha : tg a = 3) : wp 7 45 [l0, l1] [.inr (.inl a)] (hp S D) Q ↔ wp 30 0 [.inr (.inl a)] [] (hp S D) (kont 7 48 [l0, l1] [] Q) := w_callV (y2 := 30) (vs := []) (st := []) dX0_rest_45 (by decide +kernel) rfl (by decide +kernel) (Nat.le_of_ble_eq_true rfl) (eSm_4 (by simp)) 3 rfl (by decide) ha
theorem s7_48  : wp 7 48 [l0, l1] [.inl x] h Q ↔ if x = 0 then wp 7 57 [l0, l1] [] h Q else wp 7 51 [l0, l1] [] h Q := w_eq0 dX0_rest_48 (by decide)
theorem s7_51 (h0 : a ≠ 0) : wp 7 51 [.inr (.inl a), l1] [] h Q ↔ wp 7 52 [.inr (.inl a), l1] [.inr (.inl a)] h Q := wp_step dX0_rest_51 (fun _ => if_neg h0)
theorem s7_52  : wp 7 52 [l0, l1] [v0] h Q ↔ wp 7 53 [l0, l1] [.inl 3, v0] h Q := w_const1 dX0_rest_52 k_3
theorem s7_53  : wp 7 53 [l0, .inl x] [v0, v1] h Q ↔ wp 7 54 [l0, .inl x] [.inl x, v0, v1] h Q := wp_step dX0_rest_53 (fun _ => rfl)
theorem s7_54 (ha : tg a = 0) : wp 7 54 [l0, l1] [.inl x1, .inl x0, .inr (.inl a)] (hp S D) Q ↔ wp 8 0 [.inr (.inl a), .inl x0, .inl x1] [] (hp S D) (kont 7 57 [l0, l1] [] Q) := w_callV (y2 := 8) (vs := [.inl x0, .inl x1]) (st := []) dX0_rest_54 (by decide +kernel) rfl (by decide +kernel) (Nat.le_of_ble_eq_true rfl) (eSm_4 (by simp)) 0 rfl (by decide) ha
theorem s7_57  : wp 7 57 [l0, l1] [] h Q ↔ Q none h := w_retv dX0_rest_57 (by decide +kernel)
theorem s8_0 (h0 : a ≠ 0) : wp 8 0 [.inr (.inl a), l1, l2] [] h Q ↔ wp 8 1 [.inr (.inl a), l1, l2] [.inr (.inl a)] h Q := wp_step dX0_turnFor_0 (fun _ => if_neg h0)
theorem s8_1 (ha : tg a = 0) : wp 8 1 [l0, l1, l2] [.inr (.inl a)] (hp S D) Q ↔ wp 8 4 [l0, l1, l2] [.inr (.inl (a + 3))] (hp S D) Q := w_getR dX0_turnFor_1 (t := 0) (j := 2) (c := 2) (by decide +kernel) (by decide) rfl (ln_ok (by decide) (by decide)) ha
theorem s8_4  : wp 8 4 [l0, l1, .inl x] [v0] h Q ↔ wp 8 5 [l0, l1, .inl x] [.inl x, v0] h Q := wp_step dX0_turnFor_4 (fun _ => rfl)
theorem s8_5 (h0 : a ≠ 0) : wp 8 5 [.inr (.inl a), l1, l2] [v0, v1] h Q ↔ wp 8 6 [.inr (.inl a), l1, l2] [.inr (.inl a), v0, v1] h Q := wp_step dX0_turnFor_5 (fun _ => if_neg h0)
theorem s8_6 (ha : tg a = 0) : wp 8 6 [l0, l1, l2] [.inr (.inl a), v0, v1] (hp S D) Q ↔ wp 8 9 [l0, l1, l2] [.inr (.inl (a + 1)), v0, v1] (hp S D) Q := w_getR dX0_turnFor_6 (t := 0) (j := 0) (c := 2) (by decide +kernel) (by decide) rfl (ln_ok (by decide) (by decide)) ha
theorem s8_9  : wp 8 9 [l0, l1, l2] [v0, v1, v2] h Q ↔ wp 8 10 [l0, l1, l2] [.inl 2, v0, v1, v2] h Q := w_const1 dX0_turnFor_9 k_2
theorem s8_10  : wp 8 10 [l0, l1, l2] [.inl x1, .inr (.inl a0), v0, v1] h Q ↔ wp 51 0 [.inr (.inl a0), .inl x1] [] h (kont 8 13 [l0, l1, l2] [v0, v1] Q) := w_callS (y2 := 51) (kd := 0) (vs := [.inr (.inl a0), .inl x1]) (st := [v0, v1]) dX0_turnFor_10 (by decide +kernel) (by decide) rfl (by decide +kernel) (Nat.le_of_ble_eq_true rfl) (eSm_4 (by simp))
theorem s8_13 (ha : tg a = 6) : wp 8 13 [l0, l1, l2] [.inl x1, .inl x0, .inr (.inl a)] (hp S D) Q ↔ wp 59 0 [.inr (.inl a), .inl x0, .inl x1] [] (hp S D) (kont 8 16 [l0, l1, l2] [] Q) := w_callV (y2 := 59) (vs := [.inl x0, .inl x1]) (st := []) dX0_turnFor_13 (by decide +kernel) rfl (by decide +kernel) (Nat.le_of_ble_eq_true rfl) (eSm_4 (by simp)) 6 rfl (by decide) ha
theorem s8_16 (h0 : a ≠ 0) : wp 8 16 [.inr (.inl a), l1, l2] [] h Q ↔ wp 8 17 [.inr (.inl a), l1, l2] [.inr (.inl a)] h Q := wp_step dX0_turnFor_16 (fun _ => if_neg h0)
theorem s8_17  : wp 8 17 [l0, .inl x, l2] [v0] h Q ↔ wp 8 18 [l0, .inl x, l2] [.inl x, v0] h Q := wp_step dX0_turnFor_17 (fun _ => rfl)
theorem s8_18  : wp 8 18 [l0, l1, .inl x] [v0, v1] h Q ↔ wp 8 19 [l0, l1, .inl x] [.inl x, v0, v1] h Q := wp_step dX0_turnFor_18 (fun _ => rfl)
theorem s8_19 (ha : tg a = 0) : wp 8 19 [l0, l1, l2] [.inl x1, .inl x0, .inr (.inl a)] (hp S D) Q ↔ wp 9 0 [.inr (.inl a), .inl x0, .inl x1] [] (hp S D) (kont 8 22 [l0, l1, l2] [] Q) := w_callV (y2 := 9) (vs := [.inl x0, .inl x1]) (st := []) dX0_turnFor_19 (by decide +kernel) rfl (by decide +kernel) (Nat.le_of_ble_eq_true rfl) (eSm_4 (by simp)) 0 rfl (by decide) ha
theorem s8_22  : wp 8 22 [l0, l1, l2] [] h Q ↔ Q none h := w_retv dX0_turnFor_22 (by decide +kernel)
theorem s9_0 (h0 : a ≠ 0) : wp 9 0 [.inr (.inl a), l1, l2] [] h Q ↔ wp 9 1 [.inr (.inl a), l1, l2] [.inr (.inl a)] h Q := wp_step dX0_noteChange_0 (fun _ => if_neg h0)
theorem s9_1 (ha : tg a = 0) : wp 9 1 [l0, l1, l2] [.inr (.inl a)] (hp S D) Q ↔ wp 9 4 [l0, l1, l2] [.inr (.inl (a + 16))] (hp S D) Q := w_getR dX0_noteChange_1 (t := 0) (j := 4) (c := 2) (by decide +kernel) (by decide) rfl (ln_ok (by decide) (by decide)) ha
theorem s9_4  : wp 9 4 [l0, .inl x, l2] [v0] h Q ↔ wp 9 5 [l0, .inl x, l2] [.inl x, v0] h Q := wp_step dX0_noteChange_4 (fun _ => rfl)
theorem s9_5  : wp 9 5 [l0, l1, .inl x] [v0, v1] h Q ↔ wp 9 6 [l0, l1, .inl x] [.inl x, v0, v1] h Q := wp_step dX0_noteChange_5 (fun _ => rfl)
theorem s9_6 (h0 : a ≠ 0) : wp 9 6 [.inr (.inl a), l1, l2] [v0, v1, v2] h Q ↔ wp 9 7 [.inr (.inl a), l1, l2] [.inr (.inl a), v0, v1, v2] h Q := wp_step dX0_noteChange_6 (fun _ => if_neg h0)
theorem s9_7 (ha : tg a = 0) : wp 9 7 [l0, l1, l2] [.inr (.inl a), v0, v1, v2] (hp S D) Q ↔ wp 9 10 [l0, l1, l2] [.inl (D a 5), v0, v1, v2] (hp S D) Q := w_getI dX0_noteChange_7 (t := 0) (j := 5) (c := 0) (by decide +kernel) (by decide) rfl (ln_ok (by decide) (by decide)) ha
theorem s9_10 (ha : tg a = 1) : wp 9 10 [l0, l1, l2] [.inl x2, .inl x1, .inl x0, .inr (.inl a)] (hp S D) Q ↔ wp 17 0 [.inr (.inl a), .inl x0, .inl x1, .inl x2] [] (hp S D) (kont 9 13 [l0, l1, l2] [] Q) := w_callV (y2 := 17) (vs := [.inl x0, .inl x1, .inl x2]) (st := []) dX0_noteChange_10 (by decide +kernel) rfl (by decide +kernel) (Nat.le_of_ble_eq_true rfl) (eSm_4 (by simp)) 1 rfl (by decide) ha
theorem s9_13 (h0 : a ≠ 0) : wp 9 13 [.inr (.inl a), l1, l2] [] h Q ↔ wp 9 14 [.inr (.inl a), l1, l2] [.inr (.inl a)] h Q := wp_step dX0_noteChange_13 (fun _ => if_neg h0)
theorem s9_14  : wp 9 14 [l0, l1, l2] [.inr (.inl a0)] h Q ↔ wp 9 15 [l0, l1, l2] [.inr (.inl a0), .inr (.inl a0)] h Q := wp_step dX0_noteChange_14 (fun _ => rfl)
theorem s9_15 (ha : tg a = 0) : wp 9 15 [l0, l1, l2] [.inr (.inl a), v0] (hp S D) Q ↔ wp 9 18 [l0, l1, l2] [.inl (D a 10), v0] (hp S D) Q := w_getI dX0_noteChange_15 (t := 0) (j := 10) (c := 0) (by decide +kernel) (by decide) rfl (ln_ok (by decide) (by decide)) ha
theorem s9_18  : wp 9 18 [l0, l1, l2] [v0, v1] h Q ↔ wp 9 19 [l0, l1, l2] [.inl 1, v0, v1] h Q := w_const1 dX0_noteChange_18 k_1
theorem s9_19  : wp 9 19 [l0, l1, l2] [.inl z, .inl x, v0] h Q ↔ wp 9 20 [l0, l1, l2] [.inl (w32 (x + z)), v0] h Q := wp_step dX0_noteChange_19 (fun _ => rfl)
theorem s9_20 (ha : tg a = 0) : wp 9 20 [l0, l1, l2] [.inl z, .inr (.inl a)] (hp S D) Q ↔ wp 9 23 [l0, l1, l2] [] (hp S (up D a 10 z)) Q := w_put dX0_noteChange_20 (t := 0) (j := 10) (c := 0) (by decide +kernel) (by decide +kernel) (by decide) rfl (ln_ok (by decide) (by decide)) (Or.inl rfl) ha
theorem s9_23  : wp 9 23 [l0, l1, l2] [] h Q ↔ Q none h := w_retv dX0_noteChange_23 (by decide +kernel)
theorem s10_0  : wp 10 0 [l0, .inl x] [] h Q ↔ wp 10 1 [l0, .inl x] [.inl x] h Q := wp_step dX0_countNightTick_0 (fun _ => rfl)
theorem s10_1  : wp 10 1 [l0, l1] [.inl x] h Q ↔ if x = 0 then wp 10 10 [l0, l1] [] h Q else wp 10 4 [l0, l1] [] h Q := w_eq0 dX0_countNightTick_1 (by decide)
theorem s10_4 (h0 : a ≠ 0) : wp 10 4 [.inr (.inl a), l1] [] h Q ↔ wp 10 5 [.inr (.inl a), l1] [.inr (.inl a)] h Q := wp_step dX0_countNightTick_4 (fun _ => if_neg h0)
theorem s10_5  : wp 10 5 [l0, l1] [v0] h Q ↔ wp 10 6 [l0, l1] [.inl 0, v0] h Q := w_const1 dX0_countNightTick_5 k_0
theorem s10_6 (ha : tg a = 0) : wp 10 6 [l0, l1] [.inl z, .inr (.inl a)] (hp S D) Q ↔ wp 10 9 [l0, l1] [] (hp S (up D a 12 z)) Q := w_put dX0_countNightTick_6 (t := 0) (j := 12) (c := 0) (by decide +kernel) (by decide +kernel) (by decide) rfl (ln_ok (by decide) (by decide)) (Or.inl rfl) ha
theorem s10_9  : wp 10 9 [l0, l1] [] h Q ↔ Q none h := w_retv dX0_countNightTick_9 (by decide +kernel)
theorem s10_10 (h0 : a ≠ 0) : wp 10 10 [.inr (.inl a), l1] [] h Q ↔ wp 10 11 [.inr (.inl a), l1] [.inr (.inl a)] h Q := wp_step dX0_countNightTick_10 (fun _ => if_neg h0)
theorem s10_11  : wp 10 11 [l0, l1] [.inr (.inl a0)] h Q ↔ wp 10 12 [l0, l1] [.inr (.inl a0), .inr (.inl a0)] h Q := wp_step dX0_countNightTick_11 (fun _ => rfl)
theorem s10_12 (ha : tg a = 0) : wp 10 12 [l0, l1] [.inr (.inl a), v0] (hp S D) Q ↔ wp 10 15 [l0, l1] [.inl (D a 8), v0] (hp S D) Q := w_getI dX0_countNightTick_12 (t := 0) (j := 8) (c := 0) (by decide +kernel) (by decide) rfl (ln_ok (by decide) (by decide)) ha
theorem s10_15  : wp 10 15 [l0, l1] [v0, v1] h Q ↔ wp 10 16 [l0, l1] [.inl 1, v0, v1] h Q := w_const1 dX0_countNightTick_15 k_1
theorem s10_16  : wp 10 16 [l0, l1] [.inl z, .inl x, v0] h Q ↔ wp 10 17 [l0, l1] [.inl (w32 (x + z)), v0] h Q := wp_step dX0_countNightTick_16 (fun _ => rfl)
theorem s10_17 (ha : tg a = 0) : wp 10 17 [l0, l1] [.inl z, .inr (.inl a)] (hp S D) Q ↔ wp 10 20 [l0, l1] [] (hp S (up D a 8 z)) Q := w_put dX0_countNightTick_17 (t := 0) (j := 8) (c := 0) (by decide +kernel) (by decide +kernel) (by decide) rfl (ln_ok (by decide) (by decide)) (Or.inl rfl) ha
theorem s10_20 (h0 : a ≠ 0) : wp 10 20 [.inr (.inl a), l1] [] h Q ↔ wp 10 21 [.inr (.inl a), l1] [.inr (.inl a)] h Q := wp_step dX0_countNightTick_20 (fun _ => if_neg h0)
theorem s10_21  : wp 10 21 [l0, l1] [.inr (.inl a0)] h Q ↔ wp 10 22 [l0, l1] [.inr (.inl a0), .inr (.inl a0)] h Q := wp_step dX0_countNightTick_21 (fun _ => rfl)
theorem s10_22 (ha : tg a = 0) : wp 10 22 [l0, l1] [.inr (.inl a), v0] (hp S D) Q ↔ wp 10 25 [l0, l1] [.inl (D a 12), v0] (hp S D) Q := w_getI dX0_countNightTick_22 (t := 0) (j := 12) (c := 0) (by decide +kernel) (by decide) rfl (ln_ok (by decide) (by decide)) ha
theorem s10_25  : wp 10 25 [l0, l1] [v0, v1] h Q ↔ wp 10 26 [l0, l1] [.inl 1, v0, v1] h Q := w_const1 dX0_countNightTick_25 k_1
theorem s10_26  : wp 10 26 [l0, l1] [.inl z, .inl x, v0] h Q ↔ wp 10 27 [l0, l1] [.inl (w32 (x + z)), v0] h Q := wp_step dX0_countNightTick_26 (fun _ => rfl)
theorem s10_27 (ha : tg a = 0) : wp 10 27 [l0, l1] [.inl z, .inr (.inl a)] (hp S D) Q ↔ wp 10 30 [l0, l1] [] (hp S (up D a 12 z)) Q := w_put dX0_countNightTick_27 (t := 0) (j := 12) (c := 0) (by decide +kernel) (by decide +kernel) (by decide) rfl (ln_ok (by decide) (by decide)) (Or.inl rfl) ha
theorem s10_30 (h0 : a ≠ 0) : wp 10 30 [.inr (.inl a), l1] [] h Q ↔ wp 10 31 [.inr (.inl a), l1] [.inr (.inl a)] h Q := wp_step dX0_countNightTick_30 (fun _ => if_neg h0)
theorem s10_31 (h0 : a ≠ 0) : wp 10 31 [.inr (.inl a), l1] [v0] h Q ↔ wp 10 32 [.inr (.inl a), l1] [.inr (.inl a), v0] h Q := wp_step dX0_countNightTick_31 (fun _ => if_neg h0)
theorem s10_32 (ha : tg a = 0) : wp 10 32 [l0, l1] [.inr (.inl a), v0] (hp S D) Q ↔ wp 10 35 [l0, l1] [.inl (D a 9), v0] (hp S D) Q := w_getI dX0_countNightTick_32 (t := 0) (j := 9) (c := 0) (by decide +kernel) (by decide) rfl (ln_ok (by decide) (by decide)) ha
theorem s10_35 (h0 : a ≠ 0) : wp 10 35 [.inr (.inl a), l1] [v0, v1] h Q ↔ wp 10 36 [.inr (.inl a), l1] [.inr (.inl a), v0, v1] h Q := wp_step dX0_countNightTick_35 (fun _ => if_neg h0)
theorem s10_36 (ha : tg a = 0) : wp 10 36 [l0, l1] [.inr (.inl a), v0, v1] (hp S D) Q ↔ wp 10 39 [l0, l1] [.inl (D a 12), v0, v1] (hp S D) Q := w_getI dX0_countNightTick_36 (t := 0) (j := 12) (c := 0) (by decide +kernel) (by decide) rfl (ln_ok (by decide) (by decide)) ha
theorem s10_39  : wp 10 39 [l0, l1] [.inl x1, .inl x0, v0] h Q ↔ wp 99 0 [.inl x0, .inl x1] [] h (kont 10 42 [l0, l1] [v0] Q) := w_callS (y2 := 99) (kd := 0) (vs := [.inl x0, .inl x1]) (st := [v0]) dX0_countNightTick_39 (by decide +kernel) (by decide) rfl (by decide +kernel) (Nat.le_of_ble_eq_true rfl) (eSm_4 (by simp))
theorem s10_42 (ha : tg a = 0) : wp 10 42 [l0, l1] [.inl z, .inr (.inl a)] (hp S D) Q ↔ wp 10 45 [l0, l1] [] (hp S (up D a 9 z)) Q := w_put dX0_countNightTick_42 (t := 0) (j := 9) (c := 0) (by decide +kernel) (by decide +kernel) (by decide) rfl (ln_ok (by decide) (by decide)) (Or.inl rfl) ha
theorem s10_45  : wp 10 45 [l0, l1] [] h Q ↔ Q none h := w_retv dX0_countNightTick_45 (by decide +kernel)
theorem s11_0 (h0 : a ≠ 0) : wp 11 0 [.inr (.inl a), l1, l2, l3] [] h Q ↔ wp 11 1 [.inr (.inl a), l1, l2, l3] [.inr (.inl a)] h Q := wp_step dX0_receiveBoat_0 (fun _ => if_neg h0)
theorem s11_1 (ha : tg a = 0) : wp 11 1 [l0, l1, l2, l3] [.inr (.inl a)] (hp S D) Q ↔ wp 11 4 [l0, l1, l2, l3] [.inr (.inl (a + 12))] (hp S D) Q := w_getR dX0_receiveBoat_1 (t := 0) (j := 3) (c := 2) (by decide +kernel) (by decide) rfl (ln_ok (by decide) (by decide)) ha
theorem s11_4 (h0 : a ≠ 0) : wp 11 4 [.inr (.inl a), l1, l2, l3] [v0] h Q ↔ wp 11 5 [.inr (.inl a), l1, l2, l3] [.inr (.inl a), v0] h Q := wp_step dX0_receiveBoat_4 (fun _ => if_neg h0)
theorem s11_5 (ha : tg a = 0) : wp 11 5 [l0, l1, l2, l3] [.inr (.inl a), v0] (hp S D) Q ↔ wp 11 8 [l0, l1, l2, l3] [.inl (D a 5), v0] (hp S D) Q := w_getI dX0_receiveBoat_5 (t := 0) (j := 5) (c := 0) (by decide +kernel) (by decide) rfl (ln_ok (by decide) (by decide)) ha
theorem s11_8 (ha : tg a = 4) : wp 11 8 [l0, l1, l2, l3] [.inl x0, .inr (.inl a)] (hp S D) Q ↔ wp 38 0 [.inr (.inl a), .inl x0, .inr (.inl 0)] [] (hp S D) (kont 11 11 [l0, l1, l2, l3] [] Q) := w_callV (y2 := 38) (vs := [.inl x0]) (st := []) dX0_receiveBoat_8 (by decide +kernel) rfl (by decide +kernel) (Nat.le_of_ble_eq_true rfl) (eSm_4 (by simp)) 4 rfl (by decide) ha
theorem s11_11  : wp 11 11 [l0, l1, l2, l3] [.inl x] h Q ↔ wp 11 12 [l0, .inl x, l2, l3] [] h Q := wp_step dX0_receiveBoat_11 (fun _ => rfl)
theorem s11_12  : wp 11 12 [l0, .inl x, l2, l3] [] h Q ↔ wp 11 13 [l0, .inl x, l2, l3] [.inl x] h Q := wp_step dX0_receiveBoat_12 (fun _ => rfl)
theorem s11_13  : wp 11 13 [l0, l1, l2, l3] [v0] h Q ↔ wp 11 15 [l0, l1, l2, l3] [.inl (-5), v0] h Q := w_const2 dX0_receiveBoat_13 k_m5 k8_m5
theorem s11_15  : wp 11 15 [l0, l1, l2, l3] [.inl z, .inl x] h Q ↔ if x = z then wp 11 18 [l0, l1, l2, l3] [] h Q else wp 11 19 [l0, l1, l2, l3] [] h Q := w_cne dX0_receiveBoat_15 (by decide)
theorem s11_18  : wp 11 18 [l0, l1, l2, l3] [] h Q ↔ Q none h := w_retv dX0_receiveBoat_18 (by decide +kernel)
theorem s11_19 (h0 : a ≠ 0) : wp 11 19 [.inr (.inl a), l1, l2, l3] [] h Q ↔ wp 11 20 [.inr (.inl a), l1, l2, l3] [.inr (.inl a)] h Q := wp_step dX0_receiveBoat_19 (fun _ => if_neg h0)
theorem s11_20 (ha : tg a = 0) : wp 11 20 [l0, l1, l2, l3] [.inr (.inl a)] (hp S D) Q ↔ wp 11 23 [l0, l1, l2, l3] [.inr (.inl (a + 12))] (hp S D) Q := w_getR dX0_receiveBoat_20 (t := 0) (j := 3) (c := 2) (by decide +kernel) (by decide) rfl (ln_ok (by decide) (by decide)) ha
theorem s11_23 (ha : tg a = 4) : wp 11 23 [l0, l1, l2, l3] [.inr (.inl a)] (hp S D) Q ↔ wp 11 26 [l0, l1, l2, l3] [.inr (.inl (a + 2))] (hp S D) Q := w_getR dX0_receiveBoat_23 (t := 4) (j := 1) (c := 2) (by decide +kernel) (by decide) rfl (ln_ok (by decide) (by decide)) ha
theorem s11_26  : wp 11 26 [l0, .inl x, l2, l3] [v0] h Q ↔ wp 11 27 [l0, .inl x, l2, l3] [.inl x, v0] h Q := wp_step dX0_receiveBoat_26 (fun _ => rfl)
theorem s11_27  : wp 11 27 [l0, l1, l2, l3] [.inl x1, .inr (.inl a0)] h Q ↔ wp 51 0 [.inr (.inl a0), .inl x1] [] h (kont 11 30 [l0, l1, l2, l3] [] Q) := w_callS (y2 := 51) (kd := 0) (vs := [.inr (.inl a0), .inl x1]) (st := []) dX0_receiveBoat_27 (by decide +kernel) (by decide) rfl (by decide +kernel) (Nat.le_of_ble_eq_true rfl) (eSm_4 (by simp))
theorem s11_30  : wp 11 30 [l0, l1, l2, l3] [.inl x] h Q ↔ wp 11 31 [l0, l1, .inl x, l3] [] h Q := wp_step dX0_receiveBoat_30 (fun _ => rfl)
theorem s11_31 (h0 : a ≠ 0) : wp 11 31 [.inr (.inl a), l1, l2, l3] [] h Q ↔ wp 11 32 [.inr (.inl a), l1, l2, l3] [.inr (.inl a)] h Q := wp_step dX0_receiveBoat_31 (fun _ => if_neg h0)
theorem s11_32 (ha : tg a = 0) : wp 11 32 [l0, l1, l2, l3] [.inr (.inl a)] (hp S D) Q ↔ wp 11 35 [l0, l1, l2, l3] [.inr (.inl (a + 2))] (hp S D) Q := w_getR dX0_receiveBoat_32 (t := 0) (j := 1) (c := 2) (by decide +kernel) (by decide) rfl (ln_ok (by decide) (by decide)) ha
theorem s11_35  : wp 11 35 [l0, l1, .inl x, l3] [v0] h Q ↔ wp 11 36 [l0, l1, .inl x, l3] [.inl x, v0] h Q := wp_step dX0_receiveBoat_35 (fun _ => rfl)
theorem s11_36  : wp 11 36 [l0, l1, l2, l3] [.inl x1, .inr (.inl a0)] h Q ↔ wp 51 0 [.inr (.inl a0), .inl x1] [] h (kont 11 39 [l0, l1, l2, l3] [] Q) := w_callS (y2 := 51) (kd := 0) (vs := [.inr (.inl a0), .inl x1]) (st := []) dX0_receiveBoat_36 (by decide +kernel) (by decide) rfl (by decide +kernel) (Nat.le_of_ble_eq_true rfl) (eSm_4 (by simp))
theorem s11_39 (h0 : a ≠ 0) : wp 11 39 [.inr (.inl a), l1, l2, l3] [v0] h Q ↔ wp 11 40 [.inr (.inl a), l1, l2, l3] [.inr (.inl a), v0] h Q := wp_step dX0_receiveBoat_39 (fun _ => if_neg h0)
theorem s11_40 (ha : tg a = 0) : wp 11 40 [l0, l1, l2, l3] [.inr (.inl a), v0] (hp S D) Q ↔ wp 11 43 [l0, l1, l2, l3] [.inr (.inl (a + 12)), v0] (hp S D) Q := w_getR dX0_receiveBoat_40 (t := 0) (j := 3) (c := 2) (by decide +kernel) (by decide) rfl (ln_ok (by decide) (by decide)) ha
theorem s11_43 (ha : tg a = 4) : wp 11 43 [l0, l1, l2, l3] [.inr (.inl a), v0] (hp S D) Q ↔ wp 11 46 [l0, l1, l2, l3] [.inr (.inl (a + 3)), v0] (hp S D) Q := w_getR dX0_receiveBoat_43 (t := 4) (j := 2) (c := 2) (by decide +kernel) (by decide) rfl (ln_ok (by decide) (by decide)) ha
theorem s11_46  : wp 11 46 [l0, .inl x, l2, l3] [v0, v1] h Q ↔ wp 11 47 [l0, .inl x, l2, l3] [.inl x, v0, v1] h Q := wp_step dX0_receiveBoat_46 (fun _ => rfl)
theorem s11_47  : wp 11 47 [l0, l1, l2, l3] [.inl x1, .inr (.inl a0), v0] h Q ↔ wp 51 0 [.inr (.inl a0), .inl x1] [] h (kont 11 50 [l0, l1, l2, l3] [v0] Q) := w_callS (y2 := 51) (kd := 0) (vs := [.inr (.inl a0), .inl x1]) (st := [v0]) dX0_receiveBoat_47 (by decide +kernel) (by decide) rfl (by decide +kernel) (Nat.le_of_ble_eq_true rfl) (eSm_4 (by simp))
theorem s11_50  : wp 11 50 [l0, l1, l2, l3] [.inl z, .inl x] h Q ↔ wp 11 51 [l0, l1, l2, l3] [.inl (w32 (x + z))] h Q := wp_step dX0_receiveBoat_50 (fun _ => rfl)
theorem s11_51  : wp 11 51 [l0, l1, l2, l3] [.inl x] h Q ↔ wp 11 52 [l0, l1, l2, .inl x] [] h Q := wp_step dX0_receiveBoat_51 (fun _ => rfl)
theorem s11_52 (h0 : a ≠ 0) : wp 11 52 [.inr (.inl a), l1, l2, l3] [] h Q ↔ wp 11 53 [.inr (.inl a), l1, l2, l3] [.inr (.inl a)] h Q := wp_step dX0_receiveBoat_52 (fun _ => if_neg h0)
theorem s11_53 (ha : tg a = 0) : wp 11 53 [l0, l1, l2, l3] [.inr (.inl a)] (hp S D) Q ↔ wp 11 56 [l0, l1, l2, l3] [.inr (.inl (a + 2))] (hp S D) Q := w_getR dX0_receiveBoat_53 (t := 0) (j := 1) (c := 2) (by decide +kernel) (by decide) rfl (ln_ok (by decide) (by decide)) ha
theorem s11_56  : wp 11 56 [l0, l1, .inl x, l3] [v0] h Q ↔ wp 11 57 [l0, l1, .inl x, l3] [.inl x, v0] h Q := wp_step dX0_receiveBoat_56 (fun _ => rfl)
theorem s11_57  : wp 11 57 [l0, l1, l2, .inl x] [v0, v1] h Q ↔ wp 11 58 [l0, l1, l2, .inl x] [.inl x, v0, v1] h Q := wp_step dX0_receiveBoat_57 (fun _ => rfl)
theorem s11_58  : wp 11 58 [l0, l1, l2, l3] [v0, v1, v2] h Q ↔ wp 11 60 [l0, l1, l2, l3] [.inl 99, v0, v1, v2] h Q := w_const2 dX0_receiveBoat_58 k_99 k8_99
theorem s11_60  : wp 11 60 [l0, l1, l2, l3] [.inl x1, .inl x0, v0, v1] h Q ↔ wp 100 0 [.inl x0, .inl x1] [] h (kont 11 63 [l0, l1, l2, l3] [v0, v1] Q) := w_callS (y2 := 100) (kd := 0) (vs := [.inl x0, .inl x1]) (st := [v0, v1]) dX0_receiveBoat_60 (by decide +kernel) (by decide) rfl (by decide +kernel) (Nat.le_of_ble_eq_true rfl) (eSm_4 (by simp))
theorem s11_63  : wp 11 63 [l0, l1, l2, l3] [.inl x2, .inl x1, .inr (.inl a0)] h Q ↔ wp 52 0 [.inr (.inl a0), .inl x1, .inl x2] [] h (kont 11 66 [l0, l1, l2, l3] [] Q) := w_callS (y2 := 52) (kd := 0) (vs := [.inr (.inl a0), .inl x1, .inl x2]) (st := []) dX0_receiveBoat_63 (by decide +kernel) (by decide) rfl (by decide +kernel) (Nat.le_of_ble_eq_true rfl) (eSm_4 (by simp))
theorem s11_66 (h0 : a ≠ 0) : wp 11 66 [.inr (.inl a), l1, l2, l3] [] h Q ↔ wp 11 67 [.inr (.inl a), l1, l2, l3] [.inr (.inl a)] h Q := wp_step dX0_receiveBoat_66 (fun _ => if_neg h0)
theorem s11_67 (ha : tg a = 0) : wp 11 67 [l0, l1, l2, l3] [.inr (.inl a)] (hp S D) Q ↔ wp 12 0 [.inr (.inl a), .inr (.inl 0), .inr (.inl 0), .inr (.inl 0), .inr (.inl 0)] [] (hp S D) (kont 11 70 [l0, l1, l2, l3] [] Q) := w_callV (y2 := 12) (vs := []) (st := []) dX0_receiveBoat_67 (by decide +kernel) rfl (by decide +kernel) (Nat.le_of_ble_eq_true rfl) (eSm_4 (by simp)) 0 rfl (by decide) ha
theorem s11_70 (h0 : a ≠ 0) : wp 11 70 [.inr (.inl a), l1, l2, l3] [] h Q ↔ wp 11 71 [.inr (.inl a), l1, l2, l3] [.inr (.inl a)] h Q := wp_step dX0_receiveBoat_70 (fun _ => if_neg h0)
theorem s11_71 (ha : tg a = 0) : wp 11 71 [l0, l1, l2, l3] [.inr (.inl a)] (hp S D) Q ↔ wp 11 74 [l0, l1, l2, l3] [.inr (.inl (a + 16))] (hp S D) Q := w_getR dX0_receiveBoat_71 (t := 0) (j := 4) (c := 2) (by decide +kernel) (by decide) rfl (ln_ok (by decide) (by decide)) ha
theorem s11_74  : wp 11 74 [l0, l1, l2, l3] [v0] h Q ↔ wp 11 75 [l0, l1, l2, l3] [.inl 4, v0] h Q := w_const1 dX0_receiveBoat_74 k_4
theorem s11_75 (h0 : a ≠ 0) : wp 11 75 [.inr (.inl a), l1, l2, l3] [v0, v1] h Q ↔ wp 11 76 [.inr (.inl a), l1, l2, l3] [.inr (.inl a), v0, v1] h Q := wp_step dX0_receiveBoat_75 (fun _ => if_neg h0)
theorem s11_76 (ha : tg a = 0) : wp 11 76 [l0, l1, l2, l3] [.inr (.inl a), v0, v1] (hp S D) Q ↔ wp 13 0 [.inr (.inl a), .inr (.inl 0), .inr (.inl 0), .inr (.inl 0), .inr (.inl 0)] [] (hp S D) (kont 11 79 [l0, l1, l2, l3] [v0, v1] Q) := w_callV (y2 := 13) (vs := []) (st := [v0, v1]) dX0_receiveBoat_76 (by decide +kernel) rfl (by decide +kernel) (Nat.le_of_ble_eq_true rfl) (eSm_4 (by simp)) 0 rfl (by decide) ha
theorem s11_79 (h0 : a ≠ 0) : wp 11 79 [.inr (.inl a), l1, l2, l3] [v0, v1, v2] h Q ↔ wp 11 80 [.inr (.inl a), l1, l2, l3] [.inr (.inl a), v0, v1, v2] h Q := wp_step dX0_receiveBoat_79 (fun _ => if_neg h0)
theorem s11_80 (ha : tg a = 0) : wp 11 80 [l0, l1, l2, l3] [.inr (.inl a), v0, v1, v2] (hp S D) Q ↔ wp 11 83 [l0, l1, l2, l3] [.inl (D a 5), v0, v1, v2] (hp S D) Q := w_getI dX0_receiveBoat_80 (t := 0) (j := 5) (c := 0) (by decide +kernel) (by decide) rfl (ln_ok (by decide) (by decide)) ha
theorem s11_83 (ha : tg a = 1) : wp 11 83 [l0, l1, l2, l3] [.inl x2, .inl x1, .inl x0, .inr (.inl a)] (hp S D) Q ↔ wp 17 0 [.inr (.inl a), .inl x0, .inl x1, .inl x2] [] (hp S D) (kont 11 86 [l0, l1, l2, l3] [] Q) := w_callV (y2 := 17) (vs := [.inl x0, .inl x1, .inl x2]) (st := []) dX0_receiveBoat_83 (by decide +kernel) rfl (by decide +kernel) (Nat.le_of_ble_eq_true rfl) (eSm_4 (by simp)) 1 rfl (by decide) ha
theorem s11_86 (h0 : a ≠ 0) : wp 11 86 [.inr (.inl a), l1, l2, l3] [] h Q ↔ wp 11 87 [.inr (.inl a), l1, l2, l3] [.inr (.inl a)] h Q := wp_step dX0_receiveBoat_86 (fun _ => if_neg h0)
theorem s11_87  : wp 11 87 [l0, l1, l2, l3] [.inr (.inl a0)] h Q ↔ wp 11 88 [l0, l1, l2, l3] [.inr (.inl a0), .inr (.inl a0)] h Q := wp_step dX0_receiveBoat_87 (fun _ => rfl)
theorem s11_88 (ha : tg a = 0) : wp 11 88 [l0, l1, l2, l3] [.inr (.inl a), v0] (hp S D) Q ↔ wp 11 91 [l0, l1, l2, l3] [.inl (D a 11), v0] (hp S D) Q := w_getI dX0_receiveBoat_88 (t := 0) (j := 11) (c := 0) (by decide +kernel) (by decide) rfl (ln_ok (by decide) (by decide)) ha
theorem s11_91  : wp 11 91 [l0, l1, l2, l3] [v0, v1] h Q ↔ wp 11 92 [l0, l1, l2, l3] [.inl 1, v0, v1] h Q := w_const1 dX0_receiveBoat_91 k_1
theorem s11_92  : wp 11 92 [l0, l1, l2, l3] [.inl z, .inl x, v0] h Q ↔ wp 11 93 [l0, l1, l2, l3] [.inl (w32 (x + z)), v0] h Q := wp_step dX0_receiveBoat_92 (fun _ => rfl)
theorem s11_93 (ha : tg a = 0) : wp 11 93 [l0, l1, l2, l3] [.inl z, .inr (.inl a)] (hp S D) Q ↔ wp 11 96 [l0, l1, l2, l3] [] (hp S (up D a 11 z)) Q := w_put dX0_receiveBoat_93 (t := 0) (j := 11) (c := 0) (by decide +kernel) (by decide +kernel) (by decide) rfl (ln_ok (by decide) (by decide)) (Or.inl rfl) ha
theorem s11_96  : wp 11 96 [l0, l1, l2, l3] [] h Q ↔ Q none h := w_retv dX0_receiveBoat_96 (by decide +kernel)
theorem s12_0 (h0 : a ≠ 0) : wp 12 0 [.inr (.inl a), l1, l2, l3, l4] [] h Q ↔ wp 12 1 [.inr (.inl a), l1, l2, l3, l4] [.inr (.inl a)] h Q := wp_step dX0_takeOldLampsOut_0 (fun _ => if_neg h0)
theorem s12_1 (ha : tg a = 0) : wp 12 1 [l0, l1, l2, l3, l4] [.inr (.inl a)] (hp S D) Q ↔ wp 12 4 [l0, l1, l2, l3, l4] [.inr (.inl (a + 1))] (hp S D) Q := w_getR dX0_takeOldLampsOut_1 (t := 0) (j := 0) (c := 2) (by decide +kernel) (by decide) rfl (ln_ok (by decide) (by decide)) ha
theorem s12_4  : wp 12 4 [l0, l1, l2, l3, l4] [v0] h Q ↔ wp 12 5 [l0, l1, l2, l3, l4] [.inl 3, v0] h Q := w_const1 dX0_takeOldLampsOut_4 k_3
theorem s12_5  : wp 12 5 [l0, l1, l2, l3, l4] [.inl x1, .inr (.inl a0)] h Q ↔ wp 51 0 [.inr (.inl a0), .inl x1] [] h (kont 12 8 [l0, l1, l2, l3, l4] [] Q) := w_callS (y2 := 51) (kd := 0) (vs := [.inr (.inl a0), .inl x1]) (st := []) dX0_takeOldLampsOut_5 (by decide +kernel) (by decide) rfl (by decide +kernel) (Nat.le_of_ble_eq_true rfl) (eSm_4 (by simp))
theorem s12_8  : wp 12 8 [l0, l1, l2, l3, l4] [v0] h Q ↔ wp 12 9 [l0, l1, l2, l3, l4] [.inl 1, v0] h Q := w_const1 dX0_takeOldLampsOut_8 k_1
theorem s12_9  : wp 12 9 [l0, l1, l2, l3, l4] [.inl z, .inl x] h Q ↔ if x = z then wp 12 12 [l0, l1, l2, l3, l4] [] h Q else wp 12 16 [l0, l1, l2, l3, l4] [] h Q := w_cne dX0_takeOldLampsOut_9 (by decide)
theorem s12_12  : wp 12 12 [l0, l1, l2, l3, l4] [] h Q ↔ wp 12 13 [l0, l1, l2, l3, l4] [.inl 1] h Q := w_const1 dX0_takeOldLampsOut_12 k_1
theorem s12_13  : wp 12 13 [l0, l1, l2, l3, l4] [v0] h Q ↔ wp 12 17 [l0, l1, l2, l3, l4] [v0] h Q := w_goto dX0_takeOldLampsOut_13 (by decide)
theorem s12_16  : wp 12 16 [l0, l1, l2, l3, l4] [] h Q ↔ wp 12 17 [l0, l1, l2, l3, l4] [.inl 0] h Q := w_const1 dX0_takeOldLampsOut_16 k_0
theorem s12_17  : wp 12 17 [l0, l1, l2, l3, l4] [.inl x] h Q ↔ wp 12 18 [l0, .inl x, l2, l3, l4] [] h Q := wp_step dX0_takeOldLampsOut_17 (fun _ => rfl)
theorem s12_18  : wp 12 18 [l0, l1, l2, l3, l4] [] h Q ↔ wp 12 19 [l0, l1, l2, l3, l4] [.inl 0] h Q := w_const1 dX0_takeOldLampsOut_18 k_0
theorem s12_19  : wp 12 19 [l0, l1, l2, l3, l4] [.inl x] h Q ↔ wp 12 20 [l0, l1, .inl x, l3, l4] [] h Q := wp_step dX0_takeOldLampsOut_19 (fun _ => rfl)
theorem s12_20  : wp 12 20 [l0, l1, .inl x, l3, l4] [] h Q ↔ wp 12 21 [l0, l1, .inl x, l3, l4] [.inl x] h Q := wp_step dX0_takeOldLampsOut_20 (fun _ => rfl)
theorem s12_21  : wp 12 21 [l0, l1, l2, l3, l4] [v0] h Q ↔ wp 12 23 [l0, l1, l2, l3, l4] [.inl 6, v0] h Q := w_const2 dX0_takeOldLampsOut_21 k_6 k8_6
theorem s12_23  : wp 12 23 [l0, l1, l2, l3, l4] [.inl z, .inl x] h Q ↔ if x < z then wp 12 26 [l0, l1, l2, l3, l4] [] h Q else wp 12 86 [l0, l1, l2, l3, l4] [] h Q := w_cge dX0_takeOldLampsOut_23 (by decide)
theorem s12_26 (h0 : a ≠ 0) : wp 12 26 [.inr (.inl a), l1, l2, l3, l4] [] h Q ↔ wp 12 27 [.inr (.inl a), l1, l2, l3, l4] [.inr (.inl a)] h Q := wp_step dX0_takeOldLampsOut_26 (fun _ => if_neg h0)
theorem s12_27 (ha : tg a = 0) : wp 12 27 [l0, l1, l2, l3, l4] [.inr (.inl a)] (hp S D) Q ↔ wp 12 30 [l0, l1, l2, l3, l4] [.inr (.inl (a + 3))] (hp S D) Q := w_getR dX0_takeOldLampsOut_27 (t := 0) (j := 2) (c := 2) (by decide +kernel) (by decide) rfl (ln_ok (by decide) (by decide)) ha
theorem s12_30  : wp 12 30 [l0, l1, .inl x, l3, l4] [v0] h Q ↔ wp 12 31 [l0, l1, .inl x, l3, l4] [.inl x, v0] h Q := wp_step dX0_takeOldLampsOut_30 (fun _ => rfl)
theorem s12_31 (ha : tg a = 6) : wp 12 31 [l0, l1, l2, l3, l4] [.inl x0, .inr (.inl a)] (hp S D) Q ↔ wp 56 0 [.inr (.inl a), .inl x0, .inr (.inl 0)] [] (hp S D) (kont 12 34 [l0, l1, l2, l3, l4] [] Q) := w_callV (y2 := 56) (vs := [.inl x0]) (st := []) dX0_takeOldLampsOut_31 (by decide +kernel) rfl (by decide +kernel) (Nat.le_of_ble_eq_true rfl) (eSm_4 (by simp)) 6 rfl (by decide) ha
theorem s12_34 (h0 : a ≠ 0) : wp 12 34 [l0, l1, l2, l3, l4] [.inr (.inl a)] h Q ↔ wp 12 35 [l0, l1, l2, .inr (.inl a), l4] [] h Q := wp_step dX0_takeOldLampsOut_34 (fun _ => (if_neg h0).trans rfl)
theorem s12_35 (h0 : a ≠ 0) : wp 12 35 [l0, l1, l2, .inr (.inl a), l4] [] h Q ↔ wp 12 36 [l0, l1, l2, .inr (.inl a), l4] [.inr (.inl a)] h Q := wp_step dX0_takeOldLampsOut_35 (fun _ => if_neg h0)
theorem s12_36 (ha : tg a = 3) : wp 12 36 [l0, l1, l2, l3, l4] [.inr (.inl a)] (hp S D) Q ↔ wp 28 0 [.inr (.inl a)] [] (hp S D) (kont 12 39 [l0, l1, l2, l3, l4] [] Q) := w_callV (y2 := 28) (vs := []) (st := []) dX0_takeOldLampsOut_36 (by decide +kernel) rfl (by decide +kernel) (Nat.le_of_ble_eq_true rfl) (eSm_4 (by simp)) 3 rfl (by decide) ha
theorem s12_39  : wp 12 39 [l0, l1, l2, l3, l4] [.inl x] h Q ↔ if x = 0 then wp 12 42 [l0, l1, l2, l3, l4] [] h Q else wp 12 53 [l0, l1, l2, l3, l4] [] h Q := w_ne0 dX0_takeOldLampsOut_39 (by decide)
theorem s12_42  : wp 12 42 [l0, .inl x, l2, l3, l4] [] h Q ↔ wp 12 43 [l0, .inl x, l2, l3, l4] [.inl x] h Q := wp_step dX0_takeOldLampsOut_42 (fun _ => rfl)
theorem s12_43  : wp 12 43 [l0, l1, l2, l3, l4] [.inl x] h Q ↔ if x = 0 then wp 12 57 [l0, l1, l2, l3, l4] [] h Q else wp 12 46 [l0, l1, l2, l3, l4] [] h Q := w_eq0 dX0_takeOldLampsOut_43 (by decide)
theorem s12_46 (h0 : a ≠ 0) : wp 12 46 [l0, l1, l2, .inr (.inl a), l4] [] h Q ↔ wp 12 47 [l0, l1, l2, .inr (.inl a), l4] [.inr (.inl a)] h Q := wp_step dX0_takeOldLampsOut_46 (fun _ => if_neg h0)
theorem s12_47 (ha : tg a = 3) : wp 12 47 [l0, l1, l2, l3, l4] [.inr (.inl a)] (hp S D) Q ↔ wp 12 50 [l0, l1, l2, l3, l4] [.inl (D a 5)] (hp S D) Q := w_getI dX0_takeOldLampsOut_47 (t := 3) (j := 5) (c := 1) (by decide +kernel) (by decide) rfl (ln_ok (by decide) (by decide)) ha
theorem s12_50  : wp 12 50 [l0, l1, l2, l3, l4] [.inl x] h Q ↔ if x = 0 then wp 12 57 [l0, l1, l2, l3, l4] [] h Q else wp 12 53 [l0, l1, l2, l3, l4] [] h Q := w_eq0 dX0_takeOldLampsOut_50 (by decide)
theorem s12_53  : wp 12 53 [l0, l1, l2, l3, l4] [] h Q ↔ wp 12 54 [l0, l1, l2, l3, l4] [.inl 1] h Q := w_const1 dX0_takeOldLampsOut_53 k_1
theorem s12_54  : wp 12 54 [l0, l1, l2, l3, l4] [v0] h Q ↔ wp 12 58 [l0, l1, l2, l3, l4] [v0] h Q := w_goto dX0_takeOldLampsOut_54 (by decide)
theorem s12_57  : wp 12 57 [l0, l1, l2, l3, l4] [] h Q ↔ wp 12 58 [l0, l1, l2, l3, l4] [.inl 0] h Q := w_const1 dX0_takeOldLampsOut_57 k_0
theorem s12_58  : wp 12 58 [l0, l1, l2, l3, l4] [.inl x] h Q ↔ wp 12 60 [l0, l1, l2, l3, .inl x] [] h Q := wp_step dX0_takeOldLampsOut_58 (fun _ => rfl)
theorem s12_60  : wp 12 60 [l0, l1, l2, l3, .inl x] [] h Q ↔ wp 12 62 [l0, l1, l2, l3, .inl x] [.inl x] h Q := wp_step dX0_takeOldLampsOut_60 (fun _ => rfl)
theorem s12_62  : wp 12 62 [l0, l1, l2, l3, l4] [.inl x] h Q ↔ if x = 0 then wp 12 80 [l0, l1, l2, l3, l4] [] h Q else wp 12 65 [l0, l1, l2, l3, l4] [] h Q := w_eq0 dX0_takeOldLampsOut_62 (by decide)
theorem s12_65 (h0 : a ≠ 0) : wp 12 65 [.inr (.inl a), l1, l2, l3, l4] [] h Q ↔ wp 12 66 [.inr (.inl a), l1, l2, l3, l4] [.inr (.inl a)] h Q := wp_step dX0_takeOldLampsOut_65 (fun _ => if_neg h0)
theorem s12_66 (ha : tg a = 0) : wp 12 66 [l0, l1, l2, l3, l4] [.inr (.inl a)] (hp S D) Q ↔ wp 12 69 [l0, l1, l2, l3, l4] [.inr (.inl (a + 3))] (hp S D) Q := w_getR dX0_takeOldLampsOut_66 (t := 0) (j := 2) (c := 2) (by decide +kernel) (by decide) rfl (ln_ok (by decide) (by decide)) ha
theorem s12_69  : wp 12 69 [l0, l1, .inl x, l3, l4] [v0] h Q ↔ wp 12 70 [l0, l1, .inl x, l3, l4] [.inl x, v0] h Q := wp_step dX0_takeOldLampsOut_69 (fun _ => rfl)
theorem s12_70 (ha : tg a = 6) : wp 12 70 [l0, l1, l2, l3, l4] [.inl x0, .inr (.inl a)] (hp S D) Q ↔ wp 57 0 [.inr (.inl a), .inl x0] [] (hp S D) (kont 12 73 [l0, l1, l2, l3, l4] [] Q) := w_callV (y2 := 57) (vs := [.inl x0]) (st := []) dX0_takeOldLampsOut_70 (by decide +kernel) rfl (by decide +kernel) (Nat.le_of_ble_eq_true rfl) (eSm_4 (by simp)) 6 rfl (by decide) ha
theorem s12_73  : wp 12 73 [l0, l1, l2, l3, l4] [.inl x] h Q ↔ if x = 0 then wp 12 76 [l0, l1, l2, l3, l4] [] h Q else wp 12 80 [l0, l1, l2, l3, l4] [] h Q := w_ne0 dX0_takeOldLampsOut_73 (by decide)
theorem s12_76 (h0 : a ≠ 0) : wp 12 76 [l0, l1, l2, .inr (.inl a), l4] [] h Q ↔ wp 12 77 [l0, l1, l2, .inr (.inl a), l4] [.inr (.inl a)] h Q := wp_step dX0_takeOldLampsOut_76 (fun _ => if_neg h0)
theorem s12_77 (ha : tg a = 3) : wp 12 77 [l0, l1, l2, l3, l4] [.inr (.inl a)] (hp S D) Q ↔ wp 25 0 [.inr (.inl a)] [] (hp S D) (kont 12 80 [l0, l1, l2, l3, l4] [] Q) := w_callV (y2 := 25) (vs := []) (st := []) dX0_takeOldLampsOut_77 (by decide +kernel) rfl (by decide +kernel) (Nat.le_of_ble_eq_true rfl) (eSm_4 (by simp)) 3 rfl (by decide) ha
theorem s12_80  : wp 12 80 [l0, l1, .inl x, l3, l4] [] h Q ↔ wp 12 83 [l0, l1, .inl (w32 (x + 1)), l3, l4] [] h Q := wp_step dX0_takeOldLampsOut_80 (fun _ => rfl)
theorem s12_83  : wp 12 83 [l0, l1, l2, l3, l4] [] h Q ↔ wp 12 20 [l0, l1, l2, l3, l4] [] h Q := w_goto dX0_takeOldLampsOut_83 (by decide)
theorem s12_86  : wp 12 86 [l0, l1, l2, l3, l4] [] h Q ↔ Q none h := w_retv dX0_takeOldLampsOut_86 (by decide +kernel)
theorem s13_0  : wp 13 0 [l0, l1, l2, l3, l4] [] h Q ↔ wp 13 1 [l0, l1, l2, l3, l4] [.inl 0] h Q := w_const1 dX0_fillEmptySockets_0 k_0
theorem s13_1  : wp 13 1 [l0, l1, l2, l3, l4] [.inl x] h Q ↔ wp 13 2 [l0, .inl x, l2, l3, l4] [] h Q := wp_step dX0_fillEmptySockets_1 (fun _ => rfl)
theorem s13_2  : wp 13 2 [l0, l1, l2, l3, l4] [] h Q ↔ wp 13 3 [l0, l1, l2, l3, l4] [.inl 0] h Q := w_const1 dX0_fillEmptySockets_2 k_0
theorem s13_3  : wp 13 3 [l0, l1, l2, l3, l4] [.inl x] h Q ↔ wp 13 4 [l0, l1, .inl x, l3, l4] [] h Q := wp_step dX0_fillEmptySockets_3 (fun _ => rfl)
theorem s13_4  : wp 13 4 [l0, l1, .inl x, l3, l4] [] h Q ↔ wp 13 5 [l0, l1, .inl x, l3, l4] [.inl x] h Q := wp_step dX0_fillEmptySockets_4 (fun _ => rfl)
theorem s13_5  : wp 13 5 [l0, l1, l2, l3, l4] [v0] h Q ↔ wp 13 7 [l0, l1, l2, l3, l4] [.inl 6, v0] h Q := w_const2 dX0_fillEmptySockets_5 k_6 k8_6
theorem s13_7  : wp 13 7 [l0, l1, l2, l3, l4] [.inl z, .inl x] h Q ↔ if x < z then wp 13 10 [l0, l1, l2, l3, l4] [] h Q else wp 13 76 [l0, l1, l2, l3, l4] [] h Q := w_cge dX0_fillEmptySockets_7 (by decide)
theorem s13_10 (h0 : a ≠ 0) : wp 13 10 [.inr (.inl a), l1, l2, l3, l4] [] h Q ↔ wp 13 11 [.inr (.inl a), l1, l2, l3, l4] [.inr (.inl a)] h Q := wp_step dX0_fillEmptySockets_10 (fun _ => if_neg h0)
theorem s13_11 (ha : tg a = 0) : wp 13 11 [l0, l1, l2, l3, l4] [.inr (.inl a)] (hp S D) Q ↔ wp 13 14 [l0, l1, l2, l3, l4] [.inr (.inl (a + 3))] (hp S D) Q := w_getR dX0_fillEmptySockets_11 (t := 0) (j := 2) (c := 2) (by decide +kernel) (by decide) rfl (ln_ok (by decide) (by decide)) ha
theorem s13_14  : wp 13 14 [l0, l1, .inl x, l3, l4] [v0] h Q ↔ wp 13 15 [l0, l1, .inl x, l3, l4] [.inl x, v0] h Q := wp_step dX0_fillEmptySockets_14 (fun _ => rfl)
theorem s13_15 (ha : tg a = 6) : wp 13 15 [l0, l1, l2, l3, l4] [.inl x0, .inr (.inl a)] (hp S D) Q ↔ wp 56 0 [.inr (.inl a), .inl x0, .inr (.inl 0)] [] (hp S D) (kont 13 18 [l0, l1, l2, l3, l4] [] Q) := w_callV (y2 := 56) (vs := [.inl x0]) (st := []) dX0_fillEmptySockets_15 (by decide +kernel) rfl (by decide +kernel) (Nat.le_of_ble_eq_true rfl) (eSm_4 (by simp)) 6 rfl (by decide) ha
theorem s13_18 (h0 : a ≠ 0) : wp 13 18 [l0, l1, l2, l3, l4] [.inr (.inl a)] h Q ↔ wp 13 19 [l0, l1, l2, .inr (.inl a), l4] [] h Q := wp_step dX0_fillEmptySockets_18 (fun _ => (if_neg h0).trans rfl)
theorem s13_19 (h0 : a ≠ 0) : wp 13 19 [.inr (.inl a), l1, l2, l3, l4] [] h Q ↔ wp 13 20 [.inr (.inl a), l1, l2, l3, l4] [.inr (.inl a)] h Q := wp_step dX0_fillEmptySockets_19 (fun _ => if_neg h0)
theorem s13_20 (ha : tg a = 0) : wp 13 20 [l0, l1, l2, l3, l4] [.inr (.inl a)] (hp S D) Q ↔ wp 14 0 [.inr (.inl a), .inr (.inl 0)] [] (hp S D) (kont 13 23 [l0, l1, l2, l3, l4] [] Q) := w_callV (y2 := 14) (vs := []) (st := []) dX0_fillEmptySockets_20 (by decide +kernel) rfl (by decide +kernel) (Nat.le_of_ble_eq_true rfl) (eSm_4 (by simp)) 0 rfl (by decide) ha
theorem s13_23  : wp 13 23 [l0, l1, l2, l3, l4] [.inl x] h Q ↔ wp 13 25 [l0, l1, l2, l3, .inl x] [] h Q := wp_step dX0_fillEmptySockets_23 (fun _ => rfl)
theorem s13_25 (h0 : a ≠ 0) : wp 13 25 [l0, l1, l2, .inr (.inl a), l4] [] h Q ↔ wp 13 26 [l0, l1, l2, .inr (.inl a), l4] [.inr (.inl a)] h Q := wp_step dX0_fillEmptySockets_25 (fun _ => if_neg h0)
theorem s13_26 (ha : tg a = 3) : wp 13 26 [l0, l1, l2, l3, l4] [.inr (.inl a)] (hp S D) Q ↔ wp 27 0 [.inr (.inl a)] [] (hp S D) (kont 13 29 [l0, l1, l2, l3, l4] [] Q) := w_callV (y2 := 27) (vs := []) (st := []) dX0_fillEmptySockets_26 (by decide +kernel) rfl (by decide +kernel) (Nat.le_of_ble_eq_true rfl) (eSm_4 (by simp)) 3 rfl (by decide) ha
theorem s13_29  : wp 13 29 [l0, l1, l2, l3, l4] [.inl x] h Q ↔ if x = 0 then wp 13 32 [l0, l1, l2, l3, l4] [] h Q else wp 13 70 [l0, l1, l2, l3, l4] [] h Q := w_ne0 dX0_fillEmptySockets_29 (by decide)
theorem s13_32  : wp 13 32 [l0, l1, l2, l3, .inl x] [] h Q ↔ wp 13 34 [l0, l1, l2, l3, .inl x] [.inl x] h Q := wp_step dX0_fillEmptySockets_32 (fun _ => rfl)
theorem s13_34  : wp 13 34 [l0, l1, l2, l3, l4] [v0] h Q ↔ wp 13 36 [l0, l1, l2, l3, l4] [.inl (-5), v0] h Q := w_const2 dX0_fillEmptySockets_34 k_m5 k8_m5
theorem s13_36  : wp 13 36 [l0, l1, l2, l3, l4] [.inl z, .inl x] h Q ↔ if x = z then wp 13 70 [l0, l1, l2, l3, l4] [] h Q else wp 13 39 [l0, l1, l2, l3, l4] [] h Q := w_ceq dX0_fillEmptySockets_36 (by decide)
theorem s13_39 (h0 : a ≠ 0) : wp 13 39 [.inr (.inl a), l1, l2, l3, l4] [] h Q ↔ wp 13 40 [.inr (.inl a), l1, l2, l3, l4] [.inr (.inl a)] h Q := wp_step dX0_fillEmptySockets_39 (fun _ => if_neg h0)
theorem s13_40 (ha : tg a = 0) : wp 13 40 [l0, l1, l2, l3, l4] [.inr (.inl a)] (hp S D) Q ↔ wp 13 43 [l0, l1, l2, l3, l4] [.inr (.inl (a + 2))] (hp S D) Q := w_getR dX0_fillEmptySockets_40 (t := 0) (j := 1) (c := 2) (by decide +kernel) (by decide) rfl (ln_ok (by decide) (by decide)) ha
theorem s13_43  : wp 13 43 [l0, l1, l2, l3, .inl x] [v0] h Q ↔ wp 13 45 [l0, l1, l2, l3, .inl x] [.inl x, v0] h Q := wp_step dX0_fillEmptySockets_43 (fun _ => rfl)
theorem s13_45 (h0 : a ≠ 0) : wp 13 45 [.inr (.inl a), l1, l2, l3, l4] [v0, v1] h Q ↔ wp 13 46 [.inr (.inl a), l1, l2, l3, l4] [.inr (.inl a), v0, v1] h Q := wp_step dX0_fillEmptySockets_45 (fun _ => if_neg h0)
theorem s13_46 (ha : tg a = 0) : wp 13 46 [l0, l1, l2, l3, l4] [.inr (.inl a), v0, v1] (hp S D) Q ↔ wp 13 49 [l0, l1, l2, l3, l4] [.inr (.inl (a + 2)), v0, v1] (hp S D) Q := w_getR dX0_fillEmptySockets_46 (t := 0) (j := 1) (c := 2) (by decide +kernel) (by decide) rfl (ln_ok (by decide) (by decide)) ha
theorem s13_49  : wp 13 49 [l0, l1, l2, l3, .inl x] [v0, v1, v2] h Q ↔ wp 13 51 [l0, l1, l2, l3, .inl x] [.inl x, v0, v1, v2] h Q := wp_step dX0_fillEmptySockets_49 (fun _ => rfl)
theorem s13_51  : wp 13 51 [l0, l1, l2, l3, l4] [.inl x1, .inr (.inl a0), v0, v1] h Q ↔ wp 51 0 [.inr (.inl a0), .inl x1] [] h (kont 13 54 [l0, l1, l2, l3, l4] [v0, v1] Q) := w_callS (y2 := 51) (kd := 0) (vs := [.inr (.inl a0), .inl x1]) (st := [v0, v1]) dX0_fillEmptySockets_51 (by decide +kernel) (by decide) rfl (by decide +kernel) (Nat.le_of_ble_eq_true rfl) (eSm_4 (by simp))
theorem s13_54  : wp 13 54 [l0, l1, l2, l3, l4] [v0, v1, v2] h Q ↔ wp 13 55 [l0, l1, l2, l3, l4] [.inl 1, v0, v1, v2] h Q := w_const1 dX0_fillEmptySockets_54 k_1
theorem s13_55  : wp 13 55 [l0, l1, l2, l3, l4] [.inl z, .inl x, v0, v1] h Q ↔ wp 13 56 [l0, l1, l2, l3, l4] [.inl (w32 (x - z)), v0, v1] h Q := wp_step dX0_fillEmptySockets_55 (fun _ => rfl)
theorem s13_56  : wp 13 56 [l0, l1, l2, l3, l4] [.inl x2, .inl x1, .inr (.inl a0)] h Q ↔ wp 52 0 [.inr (.inl a0), .inl x1, .inl x2] [] h (kont 13 59 [l0, l1, l2, l3, l4] [] Q) := w_callS (y2 := 52) (kd := 0) (vs := [.inr (.inl a0), .inl x1, .inl x2]) (st := []) dX0_fillEmptySockets_56 (by decide +kernel) (by decide) rfl (by decide +kernel) (Nat.le_of_ble_eq_true rfl) (eSm_4 (by simp))
theorem s13_59 (h0 : a ≠ 0) : wp 13 59 [l0, l1, l2, .inr (.inl a), l4] [] h Q ↔ wp 13 60 [l0, l1, l2, .inr (.inl a), l4] [.inr (.inl a)] h Q := wp_step dX0_fillEmptySockets_59 (fun _ => if_neg h0)
theorem s13_60  : wp 13 60 [l0, l1, l2, l3, .inl x] [v0] h Q ↔ wp 13 62 [l0, l1, l2, l3, .inl x] [.inl x, v0] h Q := wp_step dX0_fillEmptySockets_60 (fun _ => rfl)
theorem s13_62  : wp 13 62 [l0, l1, l2, l3, l4] [v0, v1] h Q ↔ wp 13 64 [l0, l1, l2, l3, l4] [.inl 100, v0, v1] h Q := w_const2 dX0_fillEmptySockets_62 k_100 k8_100
theorem s13_64 (ha : tg a = 3) : wp 13 64 [l0, l1, l2, l3, l4] [.inl x1, .inl x0, .inr (.inl a)] (hp S D) Q ↔ wp 24 0 [.inr (.inl a), .inl x0, .inl x1] [] (hp S D) (kont 13 67 [l0, l1, l2, l3, l4] [] Q) := w_callV (y2 := 24) (vs := [.inl x0, .inl x1]) (st := []) dX0_fillEmptySockets_64 (by decide +kernel) rfl (by decide +kernel) (Nat.le_of_ble_eq_true rfl) (eSm_4 (by simp)) 3 rfl (by decide) ha
theorem s13_67  : wp 13 67 [l0, .inl x, l2, l3, l4] [] h Q ↔ wp 13 70 [l0, .inl (w32 (x + 1)), l2, l3, l4] [] h Q := wp_step dX0_fillEmptySockets_67 (fun _ => rfl)
theorem s13_70  : wp 13 70 [l0, l1, .inl x, l3, l4] [] h Q ↔ wp 13 73 [l0, l1, .inl (w32 (x + 1)), l3, l4] [] h Q := wp_step dX0_fillEmptySockets_70 (fun _ => rfl)
theorem s13_73  : wp 13 73 [l0, l1, l2, l3, l4] [] h Q ↔ wp 13 4 [l0, l1, l2, l3, l4] [] h Q := w_goto dX0_fillEmptySockets_73 (by decide)
theorem s13_76  : wp 13 76 [l0, .inl x, l2, l3, l4] [] h Q ↔ wp 13 77 [l0, .inl x, l2, l3, l4] [.inl x] h Q := wp_step dX0_fillEmptySockets_76 (fun _ => rfl)
theorem s13_77  : wp 13 77 [l0, l1, l2, l3, l4] [.inl x] h Q ↔ Q (some (.inl x)) h := w_reti dX0_fillEmptySockets_77 (e_ri (by decide +kernel))
theorem s14_0  : wp 14 0 [l0, l1] [] h Q ↔ wp 14 1 [l0, l1] [.inl 0] h Q := w_const1 dX0_lowestKindInStock_0 k_0
theorem s14_1  : wp 14 1 [l0, l1] [.inl x] h Q ↔ wp 14 2 [l0, .inl x] [] h Q := wp_step dX0_lowestKindInStock_1 (fun _ => rfl)
theorem s14_2  : wp 14 2 [l0, .inl x] [] h Q ↔ wp 14 3 [l0, .inl x] [.inl x] h Q := wp_step dX0_lowestKindInStock_2 (fun _ => rfl)
theorem s14_3  : wp 14 3 [l0, l1] [v0] h Q ↔ wp 14 4 [l0, l1] [.inl 3, v0] h Q := w_const1 dX0_lowestKindInStock_3 k_3
theorem s14_4  : wp 14 4 [l0, l1] [.inl z, .inl x] h Q ↔ if x < z then wp 14 7 [l0, l1] [] h Q else wp 14 26 [l0, l1] [] h Q := w_cge dX0_lowestKindInStock_4 (by decide)
theorem s14_7 (h0 : a ≠ 0) : wp 14 7 [.inr (.inl a), l1] [] h Q ↔ wp 14 8 [.inr (.inl a), l1] [.inr (.inl a)] h Q := wp_step dX0_lowestKindInStock_7 (fun _ => if_neg h0)
theorem s14_8 (ha : tg a = 0) : wp 14 8 [l0, l1] [.inr (.inl a)] (hp S D) Q ↔ wp 14 11 [l0, l1] [.inr (.inl (a + 2))] (hp S D) Q := w_getR dX0_lowestKindInStock_8 (t := 0) (j := 1) (c := 2) (by decide +kernel) (by decide) rfl (ln_ok (by decide) (by decide)) ha
theorem s14_11  : wp 14 11 [l0, .inl x] [v0] h Q ↔ wp 14 12 [l0, .inl x] [.inl x, v0] h Q := wp_step dX0_lowestKindInStock_11 (fun _ => rfl)
theorem s14_12  : wp 14 12 [l0, l1] [.inl x1, .inr (.inl a0)] h Q ↔ wp 51 0 [.inr (.inl a0), .inl x1] [] h (kont 14 15 [l0, l1] [] Q) := w_callS (y2 := 51) (kd := 0) (vs := [.inr (.inl a0), .inl x1]) (st := []) dX0_lowestKindInStock_12 (by decide +kernel) (by decide) rfl (by decide +kernel) (Nat.le_of_ble_eq_true rfl) (eSm_4 (by simp))
theorem s14_15  : wp 14 15 [l0, l1] [.inl x] h Q ↔ if 0 < x then wp 14 18 [l0, l1] [] h Q else wp 14 20 [l0, l1] [] h Q := w_le0 dX0_lowestKindInStock_15 (by decide)
theorem s14_18  : wp 14 18 [l0, .inl x] [] h Q ↔ wp 14 19 [l0, .inl x] [.inl x] h Q := wp_step dX0_lowestKindInStock_18 (fun _ => rfl)
theorem s14_19  : wp 14 19 [l0, l1] [.inl x] h Q ↔ Q (some (.inl x)) h := w_reti dX0_lowestKindInStock_19 (e_ri (by decide +kernel))
theorem s14_20  : wp 14 20 [l0, .inl x] [] h Q ↔ wp 14 23 [l0, .inl (w32 (x + 1))] [] h Q := wp_step dX0_lowestKindInStock_20 (fun _ => rfl)
theorem s14_23  : wp 14 23 [l0, l1] [] h Q ↔ wp 14 2 [l0, l1] [] h Q := w_goto dX0_lowestKindInStock_23 (by decide)
theorem s14_26  : wp 14 26 [l0, l1] [] h Q ↔ wp 14 28 [l0, l1] [.inl (-5)] h Q := w_const2 dX0_lowestKindInStock_26 k_m5 k8_m5
theorem s14_28  : wp 14 28 [l0, l1] [.inl x] h Q ↔ Q (some (.inl x)) h := w_reti dX0_lowestKindInStock_28 (e_ri (by decide +kernel))
end ESTEP
