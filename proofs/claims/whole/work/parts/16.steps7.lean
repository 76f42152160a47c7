section ESTEP
variable {l0 l1 l2 l3 l4 l5 l6 v0 v1 v2 v3 v4 v5 v6 v7 p q p0 p1 p2 p3 : eV} {a : Nat} {x z : Int} {h : eH} {Q : Option eV → eH → Prop} {S : List Int} {D : eD}
theorem s166_3  : wp 166 3 [l0, l1, l2, l3] [p] h Q ↔ wp 166 4 [l0, l1, l2, l3] [p, p] h Q := wp_step dL_law_3 (fun _ => rfl)
theorem s166_4 (h8 : 8 ≤ a) : wp 166 4 [l0, l1, l2, l3] [.inr a, v0] h Q ↔ wp 67 0 [.inr a] [] h (kont 166 7 [l0, l1, l2, l3] [v0] Q) := w_callI (y2 := 67) (vs := []) (st := [v0]) dL_law_4 (by decide +kernel) rfl (by decide +kernel) (Nat.le_of_ble_eq_true rfl) (by simp) h8
theorem s166_7 (h0 : a ≠ 0) : wp 166 7 [l0, l1, l2, l3] [.inr a] h Q ↔ wp 166 8 [l0, .inr a, l2, l3] [] h Q := wp_step dL_law_7 (fun _ => (if_neg h0).trans rfl)
theorem s166_11  : wp 166 11 [l0, l1, l2, l3] [p] h Q ↔ wp 166 12 [l0, l1, l2, l3] [p, p] h Q := wp_step dL_law_11 (fun _ => rfl)
theorem s166_12 (h8 : 8 ≤ a) : wp 166 12 [l0, l1, l2, l3] [.inr a, v0] h Q ↔ wp 98 0 [.inr a, .inr 0] [] h (kont 166 15 [l0, l1, l2, l3] [v0] Q) := w_callI (y2 := 98) (vs := []) (st := [v0]) dL_law_12 (by decide +kernel) rfl (by decide +kernel) (Nat.le_of_ble_eq_true rfl) (by simp) h8
theorem s166_15 (h0 : a ≠ 0) : wp 166 15 [l0, l1, l2, l3] [.inr a] h Q ↔ wp 166 16 [l0, l1, .inr a, l3] [] h Q := wp_step dL_law_15 (fun _ => (if_neg h0).trans rfl)
theorem s166_16  : wp 166 16 [l0, l1, l2, l3] [] h Q ↔ wp 166 17 [l0, l1, l2, l3] [.inl 0] h Q := w_const1 dL_law_16 k_0
theorem s166_17  : wp 166 17 [l0, l1, l2, l3] [.inl x] h Q ↔ wp 166 18 [l0, l1, l2, .inl x] [] h Q := wp_step dL_law_17 (fun _ => rfl)
theorem s166_18  : wp 166 18 [l0, l1, l2, .inl x] [] h Q ↔ wp 166 19 [l0, l1, l2, .inl x] [.inl x] h Q := wp_step dL_law_18 (fun _ => rfl)
theorem s166_19 (h0 : a ≠ 0) : wp 166 19 [.inr a, l1, l2, l3] [v0] h Q ↔ wp 166 20 [.inr a, l1, l2, l3] [.inr a, v0] h Q := wp_step dL_law_19 (fun _ => if_neg h0)
theorem s166_20 (ha : tg a = 100) (hS : S.length ≤ 2048) : wp 166 20 [l0, l1, l2, l3] [.inr a, v0] (hp S D) Q ↔ wp 166 21 [l0, l1, l2, l3] [.inl (ln S a), v0] (hp S D) Q := w_len dL_law_20 (by simp [ha]) (ln_lt hS a)
theorem s166_21  : wp 166 21 [l0, l1, l2, l3] [v0, v1] h Q ↔ wp 166 22 [l0, l1, l2, l3] [.inl 4, v0, v1] h Q := w_const1 dL_law_21 k_4
theorem s166_22  : wp 166 22 [l0, l1, l2, l3] [.inl z, .inl x, v0] h Q ↔ wp 166 23 [l0, l1, l2, l3] [.inl (w32 (x - z)), v0] h Q := wp_step dL_law_22 (fun _ => rfl)
theorem s166_23  : wp 166 23 [l0, l1, l2, l3] [.inl z, .inl x] h Q ↔ if z < x then wp 166 717 [l0, l1, l2, l3] [] h Q else wp 166 26 [l0, l1, l2, l3] [] h Q := w_cgt dL_law_23 (by decide)
theorem s166_26 (h0 : a ≠ 0) : wp 166 26 [.inr a, l1, l2, l3] [] h Q ↔ wp 166 27 [.inr a, l1, l2, l3] [.inr a] h Q := wp_step dL_law_26 (fun _ => if_neg h0)
theorem s166_27  : wp 166 27 [l0, l1, l2, .inl x] [v0] h Q ↔ wp 166 28 [l0, l1, l2, .inl x] [.inl x, v0] h Q := wp_step dL_law_27 (fun _ => rfl)
theorem s166_28 (ha : tg a = 100) (h0 : 0 ≤ x) (h1 : x < ln S a) : wp 166 28 [l0, l1, l2, l3] [.inl x, .inr a] (hp S D) Q ↔ wp 166 29 [l0, l1, l2, l3] [.inl (rd S D a x.toNat)] (hp S D) Q := w_iald dL_law_28 ha h0 h1
theorem s166_29  : wp 166 29 [l0, l1, l2, l3] [v0] h Q ↔ wp 166 31 [l0, l1, l2, l3] [.inl 31, v0] h Q := w_const2 dL_law_29 k_31 k8_31
theorem s166_31  : wp 166 31 [l0, l1, l2, l3] [.inl z, .inl x] h Q ↔ wp 166 32 [l0, l1, l2, l3] [.inl (Int32.ofInt x &&& Int32.ofInt z).toInt] h Q := wp_step dL_law_31 (fun _ => rfl)
theorem s166_32  : wp 166 32 [l0, l1, l2, l3] [.inl x] h Q ↔ if x = 0 then wp 166 140 [l0, l1, l2, l3] [] h Q else if x = 1 then wp 166 173 [l0, l1, l2, l3] [] h Q else if x = 2 then wp 166 206 [l0, l1, l2, l3] [] h Q else if x = 3 then wp 166 249 [l0, l1, l2, l3] [] h Q else if x = 4 then wp 166 272 [l0, l1, l2, l3] [] h Q else if x = 5 then wp 166 295 [l0, l1, l2, l3] [] h Q else if x = 6 then wp 166 328 [l0, l1, l2, l3] [] h Q else if x = 7 then wp 166 371 [l0, l1, l2, l3] [] h Q else if x = 8 then wp 166 384 [l0, l1, l2, l3] [] h Q else if x = 9 then wp 166 407 [l0, l1, l2, l3] [] h Q else if x = 10 then wp 166 432 [l0, l1, l2, l3] [] h Q else if x = 11 then wp 166 445 [l0, l1, l2, l3] [] h Q else if x = 12 then wp 166 458 [l0, l1, l2, l3] [] h Q else if x = 13 then wp 166 471 [l0, l1, l2, l3] [] h Q else if x = 14 then wp 166 484 [l0, l1, l2, l3] [] h Q else if x = 15 then wp 166 517 [l0, l1, l2, l3] [] h Q else if x = 16 then wp 166 540 [l0, l1, l2, l3] [] h Q else if x = 17 then wp 166 563 [l0, l1, l2, l3] [] h Q else if x = 18 then wp 166 576 [l0, l1, l2, l3] [] h Q else if x = 19 then wp 166 599 [l0, l1, l2, l3] [] h Q else if x = 20 then wp 166 632 [l0, l1, l2, l3] [] h Q else if x = 21 then wp 166 665 [l0, l1, l2, l3] [] h Q else if x = 22 then wp 166 688 [l0, l1, l2, l3] [] h Q else wp 166 711 [l0, l1, l2, l3] [] h Q := by
  have T := w_table (y := 166) (ls := [l0, l1, l2, l3]) (st := []) (h := h) (Q := Q) (x := x) (fun i => ([140, 173, 206, 249, 272, 295, 328, 371, 384, 407, 432, 445, 458, 471, 484, 517, 540, 563, 576, 599, 632, 665, 688] : List Nat).getD i 0) dL_law_32 711 (by decide) (by
    intro i hi
    rcases (show i = 0 ∨ i = 1 ∨ i = 2 ∨ i = 3 ∨ i = 4 ∨ i = 5 ∨ i = 6 ∨ i = 7 ∨ i = 8 ∨ i = 9 ∨ i = 10 ∨ i = 11 ∨ i = 12 ∨ i = 13 ∨ i = 14 ∨ i = 15 ∨ i = 16 ∨ i = 17 ∨ i = 18 ∨ i = 19 ∨ i = 20 ∨ i = 21 ∨ i = 22 by omega) with rfl | rfl | rfl | rfl | rfl | rfl | rfl | rfl | rfl | rfl | rfl | rfl | rfl | rfl | rfl | rfl | rfl | rfl | rfl | rfl | rfl | rfl | rfl <;> exact ⟨_, rfl, by decide⟩)
  rw [T]
  by_cases hc : x < 0 ∨ 22 < x
  · rw [if_pos hc]
    rw [if_neg (show ¬ x = 0 by omega), if_neg (show ¬ x = 1 by omega), if_neg (show ¬ x = 2 by omega), if_neg (show ¬ x = 3 by omega), if_neg (show ¬ x = 4 by omega), if_neg (show ¬ x = 5 by omega), if_neg (show ¬ x = 6 by omega), if_neg (show ¬ x = 7 by omega), if_neg (show ¬ x = 8 by omega), if_neg (show ¬ x = 9 by omega), if_neg (show ¬ x = 10 by omega), if_neg (show ¬ x = 11 by omega), if_neg (show ¬ x = 12 by omega), if_neg (show ¬ x = 13 by omega), if_neg (show ¬ x = 14 by omega), if_neg (show ¬ x = 15 by omega), if_neg (show ¬ x = 16 by omega), if_neg (show ¬ x = 17 by omega), if_neg (show ¬ x = 18 by omega), if_neg (show ¬ x = 19 by omega), if_neg (show ¬ x = 20 by omega), if_neg (show ¬ x = 21 by omega), if_neg (show ¬ x = 22 by omega)]
  · rw [if_neg hc]
    rcases (show x = 0 ∨ x = 1 ∨ x = 2 ∨ x = 3 ∨ x = 4 ∨ x = 5 ∨ x = 6 ∨ x = 7 ∨ x = 8 ∨ x = 9 ∨ x = 10 ∨ x = 11 ∨ x = 12 ∨ x = 13 ∨ x = 14 ∨ x = 15 ∨ x = 16 ∨ x = 17 ∨ x = 18 ∨ x = 19 ∨ x = 20 ∨ x = 21 ∨ x = 22 by omega) with rfl | rfl | rfl | rfl | rfl | rfl | rfl | rfl | rfl | rfl | rfl | rfl | rfl | rfl | rfl | rfl | rfl | rfl | rfl | rfl | rfl | rfl | rfl <;> simp
theorem s166_140 (h0 : a ≠ 0) : wp 166 140 [l0, .inr a, l2, l3] [] h Q ↔ wp 166 141 [l0, .inr a, l2, l3] [.inr a] h Q := wp_step dL_law_140 (fun _ => if_neg h0)
theorem s166_141 (h0 : a ≠ 0) : wp 166 141 [.inr a, l1, l2, l3] [v0] h Q ↔ wp 166 142 [.inr a, l1, l2, l3] [.inr a, v0] h Q := wp_step dL_law_141 (fun _ => if_neg h0)
theorem s166_142  : wp 166 142 [l0, l1, l2, .inl x] [v0, v1] h Q ↔ wp 166 143 [l0, l1, l2, .inl x] [.inl x, v0, v1] h Q := wp_step dL_law_142 (fun _ => rfl)
theorem s166_143  : wp 166 143 [l0, l1, l2, l3] [v0, v1, v2] h Q ↔ wp 166 144 [l0, l1, l2, l3] [.inl 1, v0, v1, v2] h Q := w_const1 dL_law_143 k_1
theorem s166_144  : wp 166 144 [l0, l1, l2, l3] [.inl z, .inl x, v0, v1] h Q ↔ wp 166 145 [l0, l1, l2, l3] [.inl (w32 (x + z)), v0, v1] h Q := wp_step dL_law_144 (fun _ => rfl)
theorem s166_145 (ha : tg a = 100) (h0 : 0 ≤ x) (h1 : x < ln S a) : wp 166 145 [l0, l1, l2, l3] [.inl x, .inr a, v0] (hp S D) Q ↔ wp 166 146 [l0, l1, l2, l3] [.inl (rd S D a x.toNat), v0] (hp S D) Q := w_iald dL_law_145 ha h0 h1
theorem s166_146 (h0 : a ≠ 0) : wp 166 146 [.inr a, l1, l2, l3] [v0, v1] h Q ↔ wp 166 147 [.inr a, l1, l2, l3] [.inr a, v0, v1] h Q := wp_step dL_law_146 (fun _ => if_neg h0)
theorem s166_147  : wp 166 147 [l0, l1, l2, .inl x] [v0, v1, v2] h Q ↔ wp 166 148 [l0, l1, l2, .inl x] [.inl x, v0, v1, v2] h Q := wp_step dL_law_147 (fun _ => rfl)
theorem s166_148  : wp 166 148 [l0, l1, l2, l3] [v0, v1, v2, v3] h Q ↔ wp 166 149 [l0, l1, l2, l3] [.inl 2, v0, v1, v2, v3] h Q := w_const1 dL_law_148 k_2
theorem s166_149  : wp 166 149 [l0, l1, l2, l3] [.inl z, .inl x, v0, v1, v2] h Q ↔ wp 166 150 [l0, l1, l2, l3] [.inl (w32 (x + z)), v0, v1, v2] h Q := wp_step dL_law_149 (fun _ => rfl)
theorem s166_150 (ha : tg a = 100) (h0 : 0 ≤ x) (h1 : x < ln S a) : wp 166 150 [l0, l1, l2, l3] [.inl x, .inr a, v0, v1] (hp S D) Q ↔ wp 166 151 [l0, l1, l2, l3] [.inl (rd S D a x.toNat), v0, v1] (hp S D) Q := w_iald dL_law_150 ha h0 h1
theorem s166_151 (ha : tg a = 7) : wp 166 151 [l0, l1, l2, l3] [p1, p0, .inr a] (hp S D) Q ↔ wp 68 0 [.inr a, p0, p1, .inr 0] [] (hp S D) (kont 166 154 [l0, l1, l2, l3] [] Q) := w_callV (y2 := 68) (vs := [p0, p1]) (st := []) dL_law_151 (by decide +kernel) rfl (by decide +kernel) (Nat.le_of_ble_eq_true rfl) (by simp) 7 rfl (by decide) ha
theorem s166_154 (h0 : a ≠ 0) : wp 166 154 [l0, l1, .inr a, l3] [v0] h Q ↔ wp 166 155 [l0, l1, .inr a, l3] [.inr a, v0] h Q := wp_step dL_law_154 (fun _ => if_neg h0)
theorem s166_155 (h0 : a ≠ 0) : wp 166 155 [.inr a, l1, l2, l3] [v0, v1] h Q ↔ wp 166 156 [.inr a, l1, l2, l3] [.inr a, v0, v1] h Q := wp_step dL_law_155 (fun _ => if_neg h0)
theorem s166_156  : wp 166 156 [l0, l1, l2, .inl x] [v0, v1, v2] h Q ↔ wp 166 157 [l0, l1, l2, .inl x] [.inl x, v0, v1, v2] h Q := wp_step dL_law_156 (fun _ => rfl)
theorem s166_157  : wp 166 157 [l0, l1, l2, l3] [v0, v1, v2, v3] h Q ↔ wp 166 158 [l0, l1, l2, l3] [.inl 1, v0, v1, v2, v3] h Q := w_const1 dL_law_157 k_1
theorem s166_158  : wp 166 158 [l0, l1, l2, l3] [.inl z, .inl x, v0, v1, v2] h Q ↔ wp 166 159 [l0, l1, l2, l3] [.inl (w32 (x + z)), v0, v1, v2] h Q := wp_step dL_law_158 (fun _ => rfl)
theorem s166_159 (ha : tg a = 100) (h0 : 0 ≤ x) (h1 : x < ln S a) : wp 166 159 [l0, l1, l2, l3] [.inl x, .inr a, v0, v1] (hp S D) Q ↔ wp 166 160 [l0, l1, l2, l3] [.inl (rd S D a x.toNat), v0, v1] (hp S D) Q := w_iald dL_law_159 ha h0 h1
theorem s166_160 (h0 : a ≠ 0) : wp 166 160 [.inr a, l1, l2, l3] [v0, v1, v2] h Q ↔ wp 166 161 [.inr a, l1, l2, l3] [.inr a, v0, v1, v2] h Q := wp_step dL_law_160 (fun _ => if_neg h0)
theorem s166_161  : wp 166 161 [l0, l1, l2, .inl x] [v0, v1, v2, v3] h Q ↔ wp 166 162 [l0, l1, l2, .inl x] [.inl x, v0, v1, v2, v3] h Q := wp_step dL_law_161 (fun _ => rfl)
theorem s166_162  : wp 166 162 [l0, l1, l2, l3] [v0, v1, v2, v3, v4] h Q ↔ wp 166 163 [l0, l1, l2, l3] [.inl 2, v0, v1, v2, v3, v4] h Q := w_const1 dL_law_162 k_2
theorem s166_163  : wp 166 163 [l0, l1, l2, l3] [.inl z, .inl x, v0, v1, v2, v3] h Q ↔ wp 166 164 [l0, l1, l2, l3] [.inl (w32 (x + z)), v0, v1, v2, v3] h Q := wp_step dL_law_163 (fun _ => rfl)
theorem s166_164 (ha : tg a = 100) (h0 : 0 ≤ x) (h1 : x < ln S a) : wp 166 164 [l0, l1, l2, l3] [.inl x, .inr a, v0, v1, v2] (hp S D) Q ↔ wp 166 165 [l0, l1, l2, l3] [.inl (rd S D a x.toNat), v0, v1, v2] (hp S D) Q := w_iald dL_law_164 ha h0 h1
theorem s166_165 (ha : tg a = 8) : wp 166 165 [l0, l1, l2, l3] [p1, p0, .inr a, v0] (hp S D) Q ↔ wp 130 0 [.inr a, p0, p1, .inr 0] [] (hp S D) (kont 166 168 [l0, l1, l2, l3] [v0] Q) := w_callV (y2 := 130) (vs := [p0, p1]) (st := [v0]) dL_law_165 (by decide +kernel) rfl (by decide +kernel) (Nat.le_of_ble_eq_true rfl) (by simp) 8 rfl (by decide) ha
theorem s166_168  : wp 166 168 [l0, l1, l2, l3] [.inl z, .inl x] h Q ↔ if x = z then wp 166 711 [l0, l1, l2, l3] [] h Q else wp 166 171 [l0, l1, l2, l3] [] h Q := w_ceq dL_law_168 (by decide)
theorem s166_171  : wp 166 171 [l0, l1, l2, l3] [] h Q ↔ wp 166 172 [l0, l1, l2, l3] [.inl 0] h Q := w_const1 dL_law_171 k_0
theorem s166_172 (h0 : x = 0 ∨ x = 1) : wp 166 172 [l0, l1, l2, l3] [.inl x] h Q ↔ Q (some (.inl x)) h := w_reti dL_law_172 (e_rz (by decide +kernel) h0)
theorem s166_173 (h0 : a ≠ 0) : wp 166 173 [l0, .inr a, l2, l3] [] h Q ↔ wp 166 174 [l0, .inr a, l2, l3] [.inr a] h Q := wp_step dL_law_173 (fun _ => if_neg h0)
theorem s166_174 (h0 : a ≠ 0) : wp 166 174 [.inr a, l1, l2, l3] [v0] h Q ↔ wp 166 175 [.inr a, l1, l2, l3] [.inr a, v0] h Q := wp_step dL_law_174 (fun _ => if_neg h0)
theorem s166_175  : wp 166 175 [l0, l1, l2, .inl x] [v0, v1] h Q ↔ wp 166 176 [l0, l1, l2, .inl x] [.inl x, v0, v1] h Q := wp_step dL_law_175 (fun _ => rfl)
theorem s166_176  : wp 166 176 [l0, l1, l2, l3] [v0, v1, v2] h Q ↔ wp 166 177 [l0, l1, l2, l3] [.inl 1, v0, v1, v2] h Q := w_const1 dL_law_176 k_1
theorem s166_177  : wp 166 177 [l0, l1, l2, l3] [.inl z, .inl x, v0, v1] h Q ↔ wp 166 178 [l0, l1, l2, l3] [.inl (w32 (x + z)), v0, v1] h Q := wp_step dL_law_177 (fun _ => rfl)
theorem s166_178 (ha : tg a = 100) (h0 : 0 ≤ x) (h1 : x < ln S a) : wp 166 178 [l0, l1, l2, l3] [.inl x, .inr a, v0] (hp S D) Q ↔ wp 166 179 [l0, l1, l2, l3] [.inl (rd S D a x.toNat), v0] (hp S D) Q := w_iald dL_law_178 ha h0 h1
theorem s166_179 (h0 : a ≠ 0) : wp 166 179 [.inr a, l1, l2, l3] [v0, v1] h Q ↔ wp 166 180 [.inr a, l1, l2, l3] [.inr a, v0, v1] h Q := wp_step dL_law_179 (fun _ => if_neg h0)
theorem s166_180  : wp 166 180 [l0, l1, l2, .inl x] [v0, v1, v2] h Q ↔ wp 166 181 [l0, l1, l2, .inl x] [.inl x, v0, v1, v2] h Q := wp_step dL_law_180 (fun _ => rfl)
theorem s166_181  : wp 166 181 [l0, l1, l2, l3] [v0, v1, v2, v3] h Q ↔ wp 166 182 [l0, l1, l2, l3] [.inl 2, v0, v1, v2, v3] h Q := w_const1 dL_law_181 k_2
theorem s166_182  : wp 166 182 [l0, l1, l2, l3] [.inl z, .inl x, v0, v1, v2] h Q ↔ wp 166 183 [l0, l1, l2, l3] [.inl (w32 (x + z)), v0, v1, v2] h Q := wp_step dL_law_182 (fun _ => rfl)
theorem s166_183 (ha : tg a = 100) (h0 : 0 ≤ x) (h1 : x < ln S a) : wp 166 183 [l0, l1, l2, l3] [.inl x, .inr a, v0, v1] (hp S D) Q ↔ wp 166 184 [l0, l1, l2, l3] [.inl (rd S D a x.toNat), v0, v1] (hp S D) Q := w_iald dL_law_183 ha h0 h1
theorem s166_184 (ha : tg a = 7) : wp 166 184 [l0, l1, l2, l3] [p1, p0, .inr a] (hp S D) Q ↔ wp 69 0 [.inr a, p0, p1] [] (hp S D) (kont 166 187 [l0, l1, l2, l3] [] Q) := w_callV (y2 := 69) (vs := [p0, p1]) (st := []) dL_law_184 (by decide +kernel) rfl (by decide +kernel) (Nat.le_of_ble_eq_true rfl) (by simp) 7 rfl (by decide) ha
theorem s166_187 (h0 : a ≠ 0) : wp 166 187 [l0, l1, .inr a, l3] [v0] h Q ↔ wp 166 188 [l0, l1, .inr a, l3] [.inr a, v0] h Q := wp_step dL_law_187 (fun _ => if_neg h0)
theorem s166_188 (h0 : a ≠ 0) : wp 166 188 [.inr a, l1, l2, l3] [v0, v1] h Q ↔ wp 166 189 [.inr a, l1, l2, l3] [.inr a, v0, v1] h Q := wp_step dL_law_188 (fun _ => if_neg h0)
theorem s166_189  : wp 166 189 [l0, l1, l2, .inl x] [v0, v1, v2] h Q ↔ wp 166 190 [l0, l1, l2, .inl x] [.inl x, v0, v1, v2] h Q := wp_step dL_law_189 (fun _ => rfl)
theorem s166_190  : wp 166 190 [l0, l1, l2, l3] [v0, v1, v2, v3] h Q ↔ wp 166 191 [l0, l1, l2, l3] [.inl 1, v0, v1, v2, v3] h Q := w_const1 dL_law_190 k_1
theorem s166_191  : wp 166 191 [l0, l1, l2, l3] [.inl z, .inl x, v0, v1, v2] h Q ↔ wp 166 192 [l0, l1, l2, l3] [.inl (w32 (x + z)), v0, v1, v2] h Q := wp_step dL_law_191 (fun _ => rfl)
theorem s166_192 (ha : tg a = 100) (h0 : 0 ≤ x) (h1 : x < ln S a) : wp 166 192 [l0, l1, l2, l3] [.inl x, .inr a, v0, v1] (hp S D) Q ↔ wp 166 193 [l0, l1, l2, l3] [.inl (rd S D a x.toNat), v0, v1] (hp S D) Q := w_iald dL_law_192 ha h0 h1
theorem s166_193 (h0 : a ≠ 0) : wp 166 193 [.inr a, l1, l2, l3] [v0, v1, v2] h Q ↔ wp 166 194 [.inr a, l1, l2, l3] [.inr a, v0, v1, v2] h Q := wp_step dL_law_193 (fun _ => if_neg h0)
theorem s166_194  : wp 166 194 [l0, l1, l2, .inl x] [v0, v1, v2, v3] h Q ↔ wp 166 195 [l0, l1, l2, .inl x] [.inl x, v0, v1, v2, v3] h Q := wp_step dL_law_194 (fun _ => rfl)
theorem s166_195  : wp 166 195 [l0, l1, l2, l3] [v0, v1, v2, v3, v4] h Q ↔ wp 166 196 [l0, l1, l2, l3] [.inl 2, v0, v1, v2, v3, v4] h Q := w_const1 dL_law_195 k_2
theorem s166_196  : wp 166 196 [l0, l1, l2, l3] [.inl z, .inl x, v0, v1, v2, v3] h Q ↔ wp 166 197 [l0, l1, l2, l3] [.inl (w32 (x + z)), v0, v1, v2, v3] h Q := wp_step dL_law_196 (fun _ => rfl)
theorem s166_197 (ha : tg a = 100) (h0 : 0 ≤ x) (h1 : x < ln S a) : wp 166 197 [l0, l1, l2, l3] [.inl x, .inr a, v0, v1, v2] (hp S D) Q ↔ wp 166 198 [l0, l1, l2, l3] [.inl (rd S D a x.toNat), v0, v1, v2] (hp S D) Q := w_iald dL_law_197 ha h0 h1
theorem s166_198 (ha : tg a = 8) : wp 166 198 [l0, l1, l2, l3] [p1, p0, .inr a, v0] (hp S D) Q ↔ wp 131 0 [.inr a, p0, p1] [] (hp S D) (kont 166 201 [l0, l1, l2, l3] [v0] Q) := w_callV (y2 := 131) (vs := [p0, p1]) (st := [v0]) dL_law_198 (by decide +kernel) rfl (by decide +kernel) (Nat.le_of_ble_eq_true rfl) (by simp) 8 rfl (by decide) ha
theorem s166_201  : wp 166 201 [l0, l1, l2, l3] [.inl z, .inl x] h Q ↔ if x = z then wp 166 711 [l0, l1, l2, l3] [] h Q else wp 166 204 [l0, l1, l2, l3] [] h Q := w_ceq dL_law_201 (by decide)
theorem s166_204  : wp 166 204 [l0, l1, l2, l3] [] h Q ↔ wp 166 205 [l0, l1, l2, l3] [.inl 0] h Q := w_const1 dL_law_204 k_0
theorem s166_205 (h0 : x = 0 ∨ x = 1) : wp 166 205 [l0, l1, l2, l3] [.inl x] h Q ↔ Q (some (.inl x)) h := w_reti dL_law_205 (e_rz (by decide +kernel) h0)
theorem s166_206 (h0 : a ≠ 0) : wp 166 206 [l0, .inr a, l2, l3] [] h Q ↔ wp 166 207 [l0, .inr a, l2, l3] [.inr a] h Q := wp_step dL_law_206 (fun _ => if_neg h0)
theorem s166_207 (h0 : a ≠ 0) : wp 166 207 [.inr a, l1, l2, l3] [v0] h Q ↔ wp 166 208 [.inr a, l1, l2, l3] [.inr a, v0] h Q := wp_step dL_law_207 (fun _ => if_neg h0)
theorem s166_208  : wp 166 208 [l0, l1, l2, .inl x] [v0, v1] h Q ↔ wp 166 209 [l0, l1, l2, .inl x] [.inl x, v0, v1] h Q := wp_step dL_law_208 (fun _ => rfl)
theorem s166_209  : wp 166 209 [l0, l1, l2, l3] [v0, v1, v2] h Q ↔ wp 166 210 [l0, l1, l2, l3] [.inl 1, v0, v1, v2] h Q := w_const1 dL_law_209 k_1
theorem s166_210  : wp 166 210 [l0, l1, l2, l3] [.inl z, .inl x, v0, v1] h Q ↔ wp 166 211 [l0, l1, l2, l3] [.inl (w32 (x + z)), v0, v1] h Q := wp_step dL_law_210 (fun _ => rfl)
theorem s166_211 (ha : tg a = 100) (h0 : 0 ≤ x) (h1 : x < ln S a) : wp 166 211 [l0, l1, l2, l3] [.inl x, .inr a, v0] (hp S D) Q ↔ wp 166 212 [l0, l1, l2, l3] [.inl (rd S D a x.toNat), v0] (hp S D) Q := w_iald dL_law_211 ha h0 h1
theorem s166_212 (h0 : a ≠ 0) : wp 166 212 [.inr a, l1, l2, l3] [v0, v1] h Q ↔ wp 166 213 [.inr a, l1, l2, l3] [.inr a, v0, v1] h Q := wp_step dL_law_212 (fun _ => if_neg h0)
theorem s166_213  : wp 166 213 [l0, l1, l2, .inl x] [v0, v1, v2] h Q ↔ wp 166 214 [l0, l1, l2, .inl x] [.inl x, v0, v1, v2] h Q := wp_step dL_law_213 (fun _ => rfl)
theorem s166_214  : wp 166 214 [l0, l1, l2, l3] [v0, v1, v2, v3] h Q ↔ wp 166 215 [l0, l1, l2, l3] [.inl 2, v0, v1, v2, v3] h Q := w_const1 dL_law_214 k_2
theorem s166_215  : wp 166 215 [l0, l1, l2, l3] [.inl z, .inl x, v0, v1, v2] h Q ↔ wp 166 216 [l0, l1, l2, l3] [.inl (w32 (x + z)), v0, v1, v2] h Q := wp_step dL_law_215 (fun _ => rfl)
theorem s166_216 (ha : tg a = 100) (h0 : 0 ≤ x) (h1 : x < ln S a) : wp 166 216 [l0, l1, l2, l3] [.inl x, .inr a, v0, v1] (hp S D) Q ↔ wp 166 217 [l0, l1, l2, l3] [.inl (rd S D a x.toNat), v0, v1] (hp S D) Q := w_iald dL_law_216 ha h0 h1
theorem s166_217 (h0 : a ≠ 0) : wp 166 217 [.inr a, l1, l2, l3] [v0, v1, v2] h Q ↔ wp 166 218 [.inr a, l1, l2, l3] [.inr a, v0, v1, v2] h Q := wp_step dL_law_217 (fun _ => if_neg h0)
theorem s166_218  : wp 166 218 [l0, l1, l2, .inl x] [v0, v1, v2, v3] h Q ↔ wp 166 219 [l0, l1, l2, .inl x] [.inl x, v0, v1, v2, v3] h Q := wp_step dL_law_218 (fun _ => rfl)
theorem s166_219  : wp 166 219 [l0, l1, l2, l3] [v0, v1, v2, v3, v4] h Q ↔ wp 166 220 [l0, l1, l2, l3] [.inl 3, v0, v1, v2, v3, v4] h Q := w_const1 dL_law_219 k_3
theorem s166_220  : wp 166 220 [l0, l1, l2, l3] [.inl z, .inl x, v0, v1, v2, v3] h Q ↔ wp 166 221 [l0, l1, l2, l3] [.inl (w32 (x + z)), v0, v1, v2, v3] h Q := wp_step dL_law_220 (fun _ => rfl)
theorem s166_221 (ha : tg a = 100) (h0 : 0 ≤ x) (h1 : x < ln S a) : wp 166 221 [l0, l1, l2, l3] [.inl x, .inr a, v0, v1, v2] (hp S D) Q ↔ wp 166 222 [l0, l1, l2, l3] [.inl (rd S D a x.toNat), v0, v1, v2] (hp S D) Q := w_iald dL_law_221 ha h0 h1
theorem s166_222 (ha : tg a = 7) : wp 166 222 [l0, l1, l2, l3] [p2, p1, p0, .inr a] (hp S D) Q ↔ wp 70 0 [.inr a, p0, p1, p2, .inr 0] [] (hp S D) (kont 166 225 [l0, l1, l2, l3] [] Q) := w_callV (y2 := 70) (vs := [p0, p1, p2]) (st := []) dL_law_222 (by decide +kernel) rfl (by decide +kernel) (Nat.le_of_ble_eq_true rfl) (by simp) 7 rfl (by decide) ha
theorem s166_225 (h0 : a ≠ 0) : wp 166 225 [l0, l1, .inr a, l3] [v0] h Q ↔ wp 166 226 [l0, l1, .inr a, l3] [.inr a, v0] h Q := wp_step dL_law_225 (fun _ => if_neg h0)
theorem s166_226 (h0 : a ≠ 0) : wp 166 226 [.inr a, l1, l2, l3] [v0, v1] h Q ↔ wp 166 227 [.inr a, l1, l2, l3] [.inr a, v0, v1] h Q := wp_step dL_law_226 (fun _ => if_neg h0)
theorem s166_227  : wp 166 227 [l0, l1, l2, .inl x] [v0, v1, v2] h Q ↔ wp 166 228 [l0, l1, l2, .inl x] [.inl x, v0, v1, v2] h Q := wp_step dL_law_227 (fun _ => rfl)
theorem s166_228  : wp 166 228 [l0, l1, l2, l3] [v0, v1, v2, v3] h Q ↔ wp 166 229 [l0, l1, l2, l3] [.inl 1, v0, v1, v2, v3] h Q := w_const1 dL_law_228 k_1
theorem s166_229  : wp 166 229 [l0, l1, l2, l3] [.inl z, .inl x, v0, v1, v2] h Q ↔ wp 166 230 [l0, l1, l2, l3] [.inl (w32 (x + z)), v0, v1, v2] h Q := wp_step dL_law_229 (fun _ => rfl)
theorem s166_230 (ha : tg a = 100) (h0 : 0 ≤ x) (h1 : x < ln S a) : wp 166 230 [l0, l1, l2, l3] [.inl x, .inr a, v0, v1] (hp S D) Q ↔ wp 166 231 [l0, l1, l2, l3] [.inl (rd S D a x.toNat), v0, v1] (hp S D) Q := w_iald dL_law_230 ha h0 h1
theorem s166_231 (h0 : a ≠ 0) : wp 166 231 [.inr a, l1, l2, l3] [v0, v1, v2] h Q ↔ wp 166 232 [.inr a, l1, l2, l3] [.inr a, v0, v1, v2] h Q := wp_step dL_law_231 (fun _ => if_neg h0)
theorem s166_232  : wp 166 232 [l0, l1, l2, .inl x] [v0, v1, v2, v3] h Q ↔ wp 166 233 [l0, l1, l2, .inl x] [.inl x, v0, v1, v2, v3] h Q := wp_step dL_law_232 (fun _ => rfl)
theorem s166_233  : wp 166 233 [l0, l1, l2, l3] [v0, v1, v2, v3, v4] h Q ↔ wp 166 234 [l0, l1, l2, l3] [.inl 2, v0, v1, v2, v3, v4] h Q := w_const1 dL_law_233 k_2
theorem s166_234  : wp 166 234 [l0, l1, l2, l3] [.inl z, .inl x, v0, v1, v2, v3] h Q ↔ wp 166 235 [l0, l1, l2, l3] [.inl (w32 (x + z)), v0, v1, v2, v3] h Q := wp_step dL_law_234 (fun _ => rfl)
theorem s166_235 (ha : tg a = 100) (h0 : 0 ≤ x) (h1 : x < ln S a) : wp 166 235 [l0, l1, l2, l3] [.inl x, .inr a, v0, v1, v2] (hp S D) Q ↔ wp 166 236 [l0, l1, l2, l3] [.inl (rd S D a x.toNat), v0, v1, v2] (hp S D) Q := w_iald dL_law_235 ha h0 h1
theorem s166_236 (h0 : a ≠ 0) : wp 166 236 [.inr a, l1, l2, l3] [v0, v1, v2, v3] h Q ↔ wp 166 237 [.inr a, l1, l2, l3] [.inr a, v0, v1, v2, v3] h Q := wp_step dL_law_236 (fun _ => if_neg h0)
theorem s166_237  : wp 166 237 [l0, l1, l2, .inl x] [v0, v1, v2, v3, v4] h Q ↔ wp 166 238 [l0, l1, l2, .inl x] [.inl x, v0, v1, v2, v3, v4] h Q := wp_step dL_law_237 (fun _ => rfl)
theorem s166_238  : wp 166 238 [l0, l1, l2, l3] [v0, v1, v2, v3, v4, v5] h Q ↔ wp 166 239 [l0, l1, l2, l3] [.inl 3, v0, v1, v2, v3, v4, v5] h Q := w_const1 dL_law_238 k_3
theorem s166_239  : wp 166 239 [l0, l1, l2, l3] [.inl z, .inl x, v0, v1, v2, v3, v4] h Q ↔ wp 166 240 [l0, l1, l2, l3] [.inl (w32 (x + z)), v0, v1, v2, v3, v4] h Q := wp_step dL_law_239 (fun _ => rfl)
theorem s166_240 (ha : tg a = 100) (h0 : 0 ≤ x) (h1 : x < ln S a) : wp 166 240 [l0, l1, l2, l3] [.inl x, .inr a, v0, v1, v2, v3] (hp S D) Q ↔ wp 166 241 [l0, l1, l2, l3] [.inl (rd S D a x.toNat), v0, v1, v2, v3] (hp S D) Q := w_iald dL_law_240 ha h0 h1
theorem s166_241 (ha : tg a = 8) : wp 166 241 [l0, l1, l2, l3] [p2, p1, p0, .inr a, v0] (hp S D) Q ↔ wp 133 0 [.inr a, p0, p1, p2] [] (hp S D) (kont 166 244 [l0, l1, l2, l3] [v0] Q) := w_callV (y2 := 133) (vs := [p0, p1, p2]) (st := [v0]) dL_law_241 (by decide +kernel) rfl (by decide +kernel) (Nat.le_of_ble_eq_true rfl) (by simp) 8 rfl (by decide) ha
theorem s166_244  : wp 166 244 [l0, l1, l2, l3] [.inl z, .inl x] h Q ↔ if x = z then wp 166 711 [l0, l1, l2, l3] [] h Q else wp 166 247 [l0, l1, l2, l3] [] h Q := w_ceq dL_law_244 (by decide)
theorem s166_247  : wp 166 247 [l0, l1, l2, l3] [] h Q ↔ wp 166 248 [l0, l1, l2, l3] [.inl 0] h Q := w_const1 dL_law_247 k_0
theorem s166_248 (h0 : x = 0 ∨ x = 1) : wp 166 248 [l0, l1, l2, l3] [.inl x] h Q ↔ Q (some (.inl x)) h := w_reti dL_law_248 (e_rz (by decide +kernel) h0)
theorem s166_249 (h0 : a ≠ 0) : wp 166 249 [l0, .inr a, l2, l3] [] h Q ↔ wp 166 250 [l0, .inr a, l2, l3] [.inr a] h Q := wp_step dL_law_249 (fun _ => if_neg h0)
theorem s166_250 (h0 : a ≠ 0) : wp 166 250 [.inr a, l1, l2, l3] [v0] h Q ↔ wp 166 251 [.inr a, l1, l2, l3] [.inr a, v0] h Q := wp_step dL_law_250 (fun _ => if_neg h0)
theorem s166_251  : wp 166 251 [l0, l1, l2, .inl x] [v0, v1] h Q ↔ wp 166 252 [l0, l1, l2, .inl x] [.inl x, v0, v1] h Q := wp_step dL_law_251 (fun _ => rfl)
theorem s166_252  : wp 166 252 [l0, l1, l2, l3] [v0, v1, v2] h Q ↔ wp 166 253 [l0, l1, l2, l3] [.inl 1, v0, v1, v2] h Q := w_const1 dL_law_252 k_1
theorem s166_253  : wp 166 253 [l0, l1, l2, l3] [.inl z, .inl x, v0, v1] h Q ↔ wp 166 254 [l0, l1, l2, l3] [.inl (w32 (x + z)), v0, v1] h Q := wp_step dL_law_253 (fun _ => rfl)
theorem s166_254 (ha : tg a = 100) (h0 : 0 ≤ x) (h1 : x < ln S a) : wp 166 254 [l0, l1, l2, l3] [.inl x, .inr a, v0] (hp S D) Q ↔ wp 166 255 [l0, l1, l2, l3] [.inl (rd S D a x.toNat), v0] (hp S D) Q := w_iald dL_law_254 ha h0 h1
theorem s166_255 (ha : tg a = 7) : wp 166 255 [l0, l1, l2, l3] [p0, .inr a] (hp S D) Q ↔ wp 71 0 [.inr a, p0, .inr 0, .inr 0] [] (hp S D) (kont 166 258 [l0, l1, l2, l3] [] Q) := w_callV (y2 := 71) (vs := [p0]) (st := []) dL_law_255 (by decide +kernel) rfl (by decide +kernel) (Nat.le_of_ble_eq_true rfl) (by simp) 7 rfl (by decide) ha
theorem s166_258 (h0 : a ≠ 0) : wp 166 258 [l0, l1, .inr a, l3] [v0] h Q ↔ wp 166 259 [l0, l1, .inr a, l3] [.inr a, v0] h Q := wp_step dL_law_258 (fun _ => if_neg h0)
theorem s166_259 (h0 : a ≠ 0) : wp 166 259 [.inr a, l1, l2, l3] [v0, v1] h Q ↔ wp 166 260 [.inr a, l1, l2, l3] [.inr a, v0, v1] h Q := wp_step dL_law_259 (fun _ => if_neg h0)
theorem s166_260  : wp 166 260 [l0, l1, l2, .inl x] [v0, v1, v2] h Q ↔ wp 166 261 [l0, l1, l2, .inl x] [.inl x, v0, v1, v2] h Q := wp_step dL_law_260 (fun _ => rfl)
theorem s166_261  : wp 166 261 [l0, l1, l2, l3] [v0, v1, v2, v3] h Q ↔ wp 166 262 [l0, l1, l2, l3] [.inl 1, v0, v1, v2, v3] h Q := w_const1 dL_law_261 k_1
theorem s166_262  : wp 166 262 [l0, l1, l2, l3] [.inl z, .inl x, v0, v1, v2] h Q ↔ wp 166 263 [l0, l1, l2, l3] [.inl (w32 (x + z)), v0, v1, v2] h Q := wp_step dL_law_262 (fun _ => rfl)
theorem s166_263 (ha : tg a = 100) (h0 : 0 ≤ x) (h1 : x < ln S a) : wp 166 263 [l0, l1, l2, l3] [.inl x, .inr a, v0, v1] (hp S D) Q ↔ wp 166 264 [l0, l1, l2, l3] [.inl (rd S D a x.toNat), v0, v1] (hp S D) Q := w_iald dL_law_263 ha h0 h1
theorem s166_264 (ha : tg a = 8) : wp 166 264 [l0, l1, l2, l3] [p0, .inr a, v0] (hp S D) Q ↔ wp 134 0 [.inr a, p0] [] (hp S D) (kont 166 267 [l0, l1, l2, l3] [v0] Q) := w_callV (y2 := 134) (vs := [p0]) (st := [v0]) dL_law_264 (by decide +kernel) rfl (by decide +kernel) (Nat.le_of_ble_eq_true rfl) (by simp) 8 rfl (by decide) ha
theorem s166_267  : wp 166 267 [l0, l1, l2, l3] [.inl z, .inl x] h Q ↔ if x = z then wp 166 711 [l0, l1, l2, l3] [] h Q else wp 166 270 [l0, l1, l2, l3] [] h Q := w_ceq dL_law_267 (by decide)
theorem s166_270  : wp 166 270 [l0, l1, l2, l3] [] h Q ↔ wp 166 271 [l0, l1, l2, l3] [.inl 0] h Q := w_const1 dL_law_270 k_0
theorem s166_271 (h0 : x = 0 ∨ x = 1) : wp 166 271 [l0, l1, l2, l3] [.inl x] h Q ↔ Q (some (.inl x)) h := w_reti dL_law_271 (e_rz (by decide +kernel) h0)
theorem s166_272 (h0 : a ≠ 0) : wp 166 272 [l0, .inr a, l2, l3] [] h Q ↔ wp 166 273 [l0, .inr a, l2, l3] [.inr a] h Q := wp_step dL_law_272 (fun _ => if_neg h0)
theorem s166_273 (h0 : a ≠ 0) : wp 166 273 [.inr a, l1, l2, l3] [v0] h Q ↔ wp 166 274 [.inr a, l1, l2, l3] [.inr a, v0] h Q := wp_step dL_law_273 (fun _ => if_neg h0)
theorem s166_274  : wp 166 274 [l0, l1, l2, .inl x] [v0, v1] h Q ↔ wp 166 275 [l0, l1, l2, .inl x] [.inl x, v0, v1] h Q := wp_step dL_law_274 (fun _ => rfl)
theorem s166_275  : wp 166 275 [l0, l1, l2, l3] [v0, v1, v2] h Q ↔ wp 166 276 [l0, l1, l2, l3] [.inl 1, v0, v1, v2] h Q := w_const1 dL_law_275 k_1
theorem s166_276  : wp 166 276 [l0, l1, l2, l3] [.inl z, .inl x, v0, v1] h Q ↔ wp 166 277 [l0, l1, l2, l3] [.inl (w32 (x + z)), v0, v1] h Q := wp_step dL_law_276 (fun _ => rfl)
theorem s166_277 (ha : tg a = 100) (h0 : 0 ≤ x) (h1 : x < ln S a) : wp 166 277 [l0, l1, l2, l3] [.inl x, .inr a, v0] (hp S D) Q ↔ wp 166 278 [l0, l1, l2, l3] [.inl (rd S D a x.toNat), v0] (hp S D) Q := w_iald dL_law_277 ha h0 h1
theorem s166_278 (ha : tg a = 7) : wp 166 278 [l0, l1, l2, l3] [p0, .inr a] (hp S D) Q ↔ wp 72 0 [.inr a, p0] [] (hp S D) (kont 166 281 [l0, l1, l2, l3] [] Q) := w_callV (y2 := 72) (vs := [p0]) (st := []) dL_law_278 (by decide +kernel) rfl (by decide +kernel) (Nat.le_of_ble_eq_true rfl) (by simp) 7 rfl (by decide) ha
theorem s166_281 (h0 : a ≠ 0) : wp 166 281 [l0, l1, .inr a, l3] [v0] h Q ↔ wp 166 282 [l0, l1, .inr a, l3] [.inr a, v0] h Q := wp_step dL_law_281 (fun _ => if_neg h0)
theorem s166_282 (h0 : a ≠ 0) : wp 166 282 [.inr a, l1, l2, l3] [v0, v1] h Q ↔ wp 166 283 [.inr a, l1, l2, l3] [.inr a, v0, v1] h Q := wp_step dL_law_282 (fun _ => if_neg h0)
theorem s166_283  : wp 166 283 [l0, l1, l2, .inl x] [v0, v1, v2] h Q ↔ wp 166 284 [l0, l1, l2, .inl x] [.inl x, v0, v1, v2] h Q := wp_step dL_law_283 (fun _ => rfl)
theorem s166_284  : wp 166 284 [l0, l1, l2, l3] [v0, v1, v2, v3] h Q ↔ wp 166 285 [l0, l1, l2, l3] [.inl 1, v0, v1, v2, v3] h Q := w_const1 dL_law_284 k_1
theorem s166_285  : wp 166 285 [l0, l1, l2, l3] [.inl z, .inl x, v0, v1, v2] h Q ↔ wp 166 286 [l0, l1, l2, l3] [.inl (w32 (x + z)), v0, v1, v2] h Q := wp_step dL_law_285 (fun _ => rfl)
theorem s166_286 (ha : tg a = 100) (h0 : 0 ≤ x) (h1 : x < ln S a) : wp 166 286 [l0, l1, l2, l3] [.inl x, .inr a, v0, v1] (hp S D) Q ↔ wp 166 287 [l0, l1, l2, l3] [.inl (rd S D a x.toNat), v0, v1] (hp S D) Q := w_iald dL_law_286 ha h0 h1
theorem s166_287 (ha : tg a = 8) : wp 166 287 [l0, l1, l2, l3] [p0, .inr a, v0] (hp S D) Q ↔ wp 135 0 [.inr a, p0] [] (hp S D) (kont 166 290 [l0, l1, l2, l3] [v0] Q) := w_callV (y2 := 135) (vs := [p0]) (st := [v0]) dL_law_287 (by decide +kernel) rfl (by decide +kernel) (Nat.le_of_ble_eq_true rfl) (by simp) 8 rfl (by decide) ha
theorem s166_290  : wp 166 290 [l0, l1, l2, l3] [.inl z, .inl x] h Q ↔ if x = z then wp 166 711 [l0, l1, l2, l3] [] h Q else wp 166 293 [l0, l1, l2, l3] [] h Q := w_ceq dL_law_290 (by decide)
theorem s166_293  : wp 166 293 [l0, l1, l2, l3] [] h Q ↔ wp 166 294 [l0, l1, l2, l3] [.inl 0] h Q := w_const1 dL_law_293 k_0
theorem s166_294 (h0 : x = 0 ∨ x = 1) : wp 166 294 [l0, l1, l2, l3] [.inl x] h Q ↔ Q (some (.inl x)) h := w_reti dL_law_294 (e_rz (by decide +kernel) h0)
theorem s166_295 (h0 : a ≠ 0) : wp 166 295 [l0, .inr a, l2, l3] [] h Q ↔ wp 166 296 [l0, .inr a, l2, l3] [.inr a] h Q := wp_step dL_law_295 (fun _ => if_neg h0)
theorem s166_296 (h0 : a ≠ 0) : wp 166 296 [.inr a, l1, l2, l3] [v0] h Q ↔ wp 166 297 [.inr a, l1, l2, l3] [.inr a, v0] h Q := wp_step dL_law_296 (fun _ => if_neg h0)
theorem s166_297  : wp 166 297 [l0, l1, l2, .inl x] [v0, v1] h Q ↔ wp 166 298 [l0, l1, l2, .inl x] [.inl x, v0, v1] h Q := wp_step dL_law_297 (fun _ => rfl)
theorem s166_298  : wp 166 298 [l0, l1, l2, l3] [v0, v1, v2] h Q ↔ wp 166 299 [l0, l1, l2, l3] [.inl 1, v0, v1, v2] h Q := w_const1 dL_law_298 k_1
theorem s166_299  : wp 166 299 [l0, l1, l2, l3] [.inl z, .inl x, v0, v1] h Q ↔ wp 166 300 [l0, l1, l2, l3] [.inl (w32 (x + z)), v0, v1] h Q := wp_step dL_law_299 (fun _ => rfl)
theorem s166_300 (ha : tg a = 100) (h0 : 0 ≤ x) (h1 : x < ln S a) : wp 166 300 [l0, l1, l2, l3] [.inl x, .inr a, v0] (hp S D) Q ↔ wp 166 301 [l0, l1, l2, l3] [.inl (rd S D a x.toNat), v0] (hp S D) Q := w_iald dL_law_300 ha h0 h1
theorem s166_301 (h0 : a ≠ 0) : wp 166 301 [.inr a, l1, l2, l3] [v0, v1] h Q ↔ wp 166 302 [.inr a, l1, l2, l3] [.inr a, v0, v1] h Q := wp_step dL_law_301 (fun _ => if_neg h0)
theorem s166_302  : wp 166 302 [l0, l1, l2, .inl x] [v0, v1, v2] h Q ↔ wp 166 303 [l0, l1, l2, .inl x] [.inl x, v0, v1, v2] h Q := wp_step dL_law_302 (fun _ => rfl)
theorem s166_303  : wp 166 303 [l0, l1, l2, l3] [v0, v1, v2, v3] h Q ↔ wp 166 304 [l0, l1, l2, l3] [.inl 2, v0, v1, v2, v3] h Q := w_const1 dL_law_303 k_2
theorem s166_304  : wp 166 304 [l0, l1, l2, l3] [.inl z, .inl x, v0, v1, v2] h Q ↔ wp 166 305 [l0, l1, l2, l3] [.inl (w32 (x + z)), v0, v1, v2] h Q := wp_step dL_law_304 (fun _ => rfl)
theorem s166_305 (ha : tg a = 100) (h0 : 0 ≤ x) (h1 : x < ln S a) : wp 166 305 [l0, l1, l2, l3] [.inl x, .inr a, v0, v1] (hp S D) Q ↔ wp 166 306 [l0, l1, l2, l3] [.inl (rd S D a x.toNat), v0, v1] (hp S D) Q := w_iald dL_law_305 ha h0 h1
theorem s166_306 (ha : tg a = 7) : wp 166 306 [l0, l1, l2, l3] [p1, p0, .inr a] (hp S D) Q ↔ wp 73 0 [.inr a, p0, p1, .inr 0] [] (hp S D) (kont 166 309 [l0, l1, l2, l3] [] Q) := w_callV (y2 := 73) (vs := [p0, p1]) (st := []) dL_law_306 (by decide +kernel) rfl (by decide +kernel) (Nat.le_of_ble_eq_true rfl) (by simp) 7 rfl (by decide) ha
theorem s166_309 (h0 : a ≠ 0) : wp 166 309 [l0, l1, .inr a, l3] [v0] h Q ↔ wp 166 310 [l0, l1, .inr a, l3] [.inr a, v0] h Q := wp_step dL_law_309 (fun _ => if_neg h0)
theorem s166_310 (h0 : a ≠ 0) : wp 166 310 [.inr a, l1, l2, l3] [v0, v1] h Q ↔ wp 166 311 [.inr a, l1, l2, l3] [.inr a, v0, v1] h Q := wp_step dL_law_310 (fun _ => if_neg h0)
theorem s166_311  : wp 166 311 [l0, l1, l2, .inl x] [v0, v1, v2] h Q ↔ wp 166 312 [l0, l1, l2, .inl x] [.inl x, v0, v1, v2] h Q := wp_step dL_law_311 (fun _ => rfl)
theorem s166_312  : wp 166 312 [l0, l1, l2, l3] [v0, v1, v2, v3] h Q ↔ wp 166 313 [l0, l1, l2, l3] [.inl 1, v0, v1, v2, v3] h Q := w_const1 dL_law_312 k_1
theorem s166_313  : wp 166 313 [l0, l1, l2, l3] [.inl z, .inl x, v0, v1, v2] h Q ↔ wp 166 314 [l0, l1, l2, l3] [.inl (w32 (x + z)), v0, v1, v2] h Q := wp_step dL_law_313 (fun _ => rfl)
theorem s166_314 (ha : tg a = 100) (h0 : 0 ≤ x) (h1 : x < ln S a) : wp 166 314 [l0, l1, l2, l3] [.inl x, .inr a, v0, v1] (hp S D) Q ↔ wp 166 315 [l0, l1, l2, l3] [.inl (rd S D a x.toNat), v0, v1] (hp S D) Q := w_iald dL_law_314 ha h0 h1
theorem s166_315 (h0 : a ≠ 0) : wp 166 315 [.inr a, l1, l2, l3] [v0, v1, v2] h Q ↔ wp 166 316 [.inr a, l1, l2, l3] [.inr a, v0, v1, v2] h Q := wp_step dL_law_315 (fun _ => if_neg h0)
theorem s166_316  : wp 166 316 [l0, l1, l2, .inl x] [v0, v1, v2, v3] h Q ↔ wp 166 317 [l0, l1, l2, .inl x] [.inl x, v0, v1, v2, v3] h Q := wp_step dL_law_316 (fun _ => rfl)
theorem s166_317  : wp 166 317 [l0, l1, l2, l3] [v0, v1, v2, v3, v4] h Q ↔ wp 166 318 [l0, l1, l2, l3] [.inl 2, v0, v1, v2, v3, v4] h Q := w_const1 dL_law_317 k_2
theorem s166_318  : wp 166 318 [l0, l1, l2, l3] [.inl z, .inl x, v0, v1, v2, v3] h Q ↔ wp 166 319 [l0, l1, l2, l3] [.inl (w32 (x + z)), v0, v1, v2, v3] h Q := wp_step dL_law_318 (fun _ => rfl)
theorem s166_319 (ha : tg a = 100) (h0 : 0 ≤ x) (h1 : x < ln S a) : wp 166 319 [l0, l1, l2, l3] [.inl x, .inr a, v0, v1, v2] (hp S D) Q ↔ wp 166 320 [l0, l1, l2, l3] [.inl (rd S D a x.toNat), v0, v1, v2] (hp S D) Q := w_iald dL_law_319 ha h0 h1
theorem s166_320 (ha : tg a = 8) : wp 166 320 [l0, l1, l2, l3] [p1, p0, .inr a, v0] (hp S D) Q ↔ wp 136 0 [.inr a, p0, p1] [] (hp S D) (kont 166 323 [l0, l1, l2, l3] [v0] Q) := w_callV (y2 := 136) (vs := [p0, p1]) (st := [v0]) dL_law_320 (by decide +kernel) rfl (by decide +kernel) (Nat.le_of_ble_eq_true rfl) (by simp) 8 rfl (by decide) ha
theorem s166_323  : wp 166 323 [l0, l1, l2, l3] [.inl z, .inl x] h Q ↔ if x = z then wp 166 711 [l0, l1, l2, l3] [] h Q else wp 166 326 [l0, l1, l2, l3] [] h Q := w_ceq dL_law_323 (by decide)
theorem s166_326  : wp 166 326 [l0, l1, l2, l3] [] h Q ↔ wp 166 327 [l0, l1, l2, l3] [.inl 0] h Q := w_const1 dL_law_326 k_0
theorem s166_327 (h0 : x = 0 ∨ x = 1) : wp 166 327 [l0, l1, l2, l3] [.inl x] h Q ↔ Q (some (.inl x)) h := w_reti dL_law_327 (e_rz (by decide +kernel) h0)
theorem s166_328 (h0 : a ≠ 0) : wp 166 328 [l0, .inr a, l2, l3] [] h Q ↔ wp 166 329 [l0, .inr a, l2, l3] [.inr a] h Q := wp_step dL_law_328 (fun _ => if_neg h0)
theorem s166_329 (h0 : a ≠ 0) : wp 166 329 [.inr a, l1, l2, l3] [v0] h Q ↔ wp 166 330 [.inr a, l1, l2, l3] [.inr a, v0] h Q := wp_step dL_law_329 (fun _ => if_neg h0)
theorem s166_330  : wp 166 330 [l0, l1, l2, .inl x] [v0, v1] h Q ↔ wp 166 331 [l0, l1, l2, .inl x] [.inl x, v0, v1] h Q := wp_step dL_law_330 (fun _ => rfl)
theorem s166_331  : wp 166 331 [l0, l1, l2, l3] [v0, v1, v2] h Q ↔ wp 166 332 [l0, l1, l2, l3] [.inl 1, v0, v1, v2] h Q := w_const1 dL_law_331 k_1
theorem s166_332  : wp 166 332 [l0, l1, l2, l3] [.inl z, .inl x, v0, v1] h Q ↔ wp 166 333 [l0, l1, l2, l3] [.inl (w32 (x + z)), v0, v1] h Q := wp_step dL_law_332 (fun _ => rfl)
theorem s166_333 (ha : tg a = 100) (h0 : 0 ≤ x) (h1 : x < ln S a) : wp 166 333 [l0, l1, l2, l3] [.inl x, .inr a, v0] (hp S D) Q ↔ wp 166 334 [l0, l1, l2, l3] [.inl (rd S D a x.toNat), v0] (hp S D) Q := w_iald dL_law_333 ha h0 h1
theorem s166_334 (h0 : a ≠ 0) : wp 166 334 [.inr a, l1, l2, l3] [v0, v1] h Q ↔ wp 166 335 [.inr a, l1, l2, l3] [.inr a, v0, v1] h Q := wp_step dL_law_334 (fun _ => if_neg h0)
theorem s166_335  : wp 166 335 [l0, l1, l2, .inl x] [v0, v1, v2] h Q ↔ wp 166 336 [l0, l1, l2, .inl x] [.inl x, v0, v1, v2] h Q := wp_step dL_law_335 (fun _ => rfl)
theorem s166_336  : wp 166 336 [l0, l1, l2, l3] [v0, v1, v2, v3] h Q ↔ wp 166 337 [l0, l1, l2, l3] [.inl 2, v0, v1, v2, v3] h Q := w_const1 dL_law_336 k_2
theorem s166_337  : wp 166 337 [l0, l1, l2, l3] [.inl z, .inl x, v0, v1, v2] h Q ↔ wp 166 338 [l0, l1, l2, l3] [.inl (w32 (x + z)), v0, v1, v2] h Q := wp_step dL_law_337 (fun _ => rfl)
theorem s166_338 (ha : tg a = 100) (h0 : 0 ≤ x) (h1 : x < ln S a) : wp 166 338 [l0, l1, l2, l3] [.inl x, .inr a, v0, v1] (hp S D) Q ↔ wp 166 339 [l0, l1, l2, l3] [.inl (rd S D a x.toNat), v0, v1] (hp S D) Q := w_iald dL_law_338 ha h0 h1
theorem s166_339 (h0 : a ≠ 0) : wp 166 339 [.inr a, l1, l2, l3] [v0, v1, v2] h Q ↔ wp 166 340 [.inr a, l1, l2, l3] [.inr a, v0, v1, v2] h Q := wp_step dL_law_339 (fun _ => if_neg h0)
theorem s166_340  : wp 166 340 [l0, l1, l2, .inl x] [v0, v1, v2, v3] h Q ↔ wp 166 341 [l0, l1, l2, .inl x] [.inl x, v0, v1, v2, v3] h Q := wp_step dL_law_340 (fun _ => rfl)
theorem s166_341  : wp 166 341 [l0, l1, l2, l3] [v0, v1, v2, v3, v4] h Q ↔ wp 166 342 [l0, l1, l2, l3] [.inl 3, v0, v1, v2, v3, v4] h Q := w_const1 dL_law_341 k_3
theorem s166_342  : wp 166 342 [l0, l1, l2, l3] [.inl z, .inl x, v0, v1, v2, v3] h Q ↔ wp 166 343 [l0, l1, l2, l3] [.inl (w32 (x + z)), v0, v1, v2, v3] h Q := wp_step dL_law_342 (fun _ => rfl)
theorem s166_343 (ha : tg a = 100) (h0 : 0 ≤ x) (h1 : x < ln S a) : wp 166 343 [l0, l1, l2, l3] [.inl x, .inr a, v0, v1, v2] (hp S D) Q ↔ wp 166 344 [l0, l1, l2, l3] [.inl (rd S D a x.toNat), v0, v1, v2] (hp S D) Q := w_iald dL_law_343 ha h0 h1
theorem s166_344 (ha : tg a = 7) : wp 166 344 [l0, l1, l2, l3] [p2, p1, p0, .inr a] (hp S D) Q ↔ wp 74 0 [.inr a, p0, p1, p2] [] (hp S D) (kont 166 347 [l0, l1, l2, l3] [] Q) := w_callV (y2 := 74) (vs := [p0, p1, p2]) (st := []) dL_law_344 (by decide +kernel) rfl (by decide +kernel) (Nat.le_of_ble_eq_true rfl) (by simp) 7 rfl (by decide) ha
theorem s166_347 (h0 : a ≠ 0) : wp 166 347 [l0, l1, .inr a, l3] [v0] h Q ↔ wp 166 348 [l0, l1, .inr a, l3] [.inr a, v0] h Q := wp_step dL_law_347 (fun _ => if_neg h0)
theorem s166_348 (h0 : a ≠ 0) : wp 166 348 [.inr a, l1, l2, l3] [v0, v1] h Q ↔ wp 166 349 [.inr a, l1, l2, l3] [.inr a, v0, v1] h Q := wp_step dL_law_348 (fun _ => if_neg h0)
theorem s166_349  : wp 166 349 [l0, l1, l2, .inl x] [v0, v1, v2] h Q ↔ wp 166 350 [l0, l1, l2, .inl x] [.inl x, v0, v1, v2] h Q := wp_step dL_law_349 (fun _ => rfl)
theorem s166_350  : wp 166 350 [l0, l1, l2, l3] [v0, v1, v2, v3] h Q ↔ wp 166 351 [l0, l1, l2, l3] [.inl 1, v0, v1, v2, v3] h Q := w_const1 dL_law_350 k_1
theorem s166_351  : wp 166 351 [l0, l1, l2, l3] [.inl z, .inl x, v0, v1, v2] h Q ↔ wp 166 352 [l0, l1, l2, l3] [.inl (w32 (x + z)), v0, v1, v2] h Q := wp_step dL_law_351 (fun _ => rfl)
theorem s166_352 (ha : tg a = 100) (h0 : 0 ≤ x) (h1 : x < ln S a) : wp 166 352 [l0, l1, l2, l3] [.inl x, .inr a, v0, v1] (hp S D) Q ↔ wp 166 353 [l0, l1, l2, l3] [.inl (rd S D a x.toNat), v0, v1] (hp S D) Q := w_iald dL_law_352 ha h0 h1
theorem s166_353 (h0 : a ≠ 0) : wp 166 353 [.inr a, l1, l2, l3] [v0, v1, v2] h Q ↔ wp 166 354 [.inr a, l1, l2, l3] [.inr a, v0, v1, v2] h Q := wp_step dL_law_353 (fun _ => if_neg h0)
theorem s166_354  : wp 166 354 [l0, l1, l2, .inl x] [v0, v1, v2, v3] h Q ↔ wp 166 355 [l0, l1, l2, .inl x] [.inl x, v0, v1, v2, v3] h Q := wp_step dL_law_354 (fun _ => rfl)
theorem s166_355  : wp 166 355 [l0, l1, l2, l3] [v0, v1, v2, v3, v4] h Q ↔ wp 166 356 [l0, l1, l2, l3] [.inl 2, v0, v1, v2, v3, v4] h Q := w_const1 dL_law_355 k_2
theorem s166_356  : wp 166 356 [l0, l1, l2, l3] [.inl z, .inl x, v0, v1, v2, v3] h Q ↔ wp 166 357 [l0, l1, l2, l3] [.inl (w32 (x + z)), v0, v1, v2, v3] h Q := wp_step dL_law_356 (fun _ => rfl)
theorem s166_357 (ha : tg a = 100) (h0 : 0 ≤ x) (h1 : x < ln S a) : wp 166 357 [l0, l1, l2, l3] [.inl x, .inr a, v0, v1, v2] (hp S D) Q ↔ wp 166 358 [l0, l1, l2, l3] [.inl (rd S D a x.toNat), v0, v1, v2] (hp S D) Q := w_iald dL_law_357 ha h0 h1
theorem s166_358 (h0 : a ≠ 0) : wp 166 358 [.inr a, l1, l2, l3] [v0, v1, v2, v3] h Q ↔ wp 166 359 [.inr a, l1, l2, l3] [.inr a, v0, v1, v2, v3] h Q := wp_step dL_law_358 (fun _ => if_neg h0)
theorem s166_359  : wp 166 359 [l0, l1, l2, .inl x] [v0, v1, v2, v3, v4] h Q ↔ wp 166 360 [l0, l1, l2, .inl x] [.inl x, v0, v1, v2, v3, v4] h Q := wp_step dL_law_359 (fun _ => rfl)
theorem s166_360  : wp 166 360 [l0, l1, l2, l3] [v0, v1, v2, v3, v4, v5] h Q ↔ wp 166 361 [l0, l1, l2, l3] [.inl 3, v0, v1, v2, v3, v4, v5] h Q := w_const1 dL_law_360 k_3
theorem s166_361  : wp 166 361 [l0, l1, l2, l3] [.inl z, .inl x, v0, v1, v2, v3, v4] h Q ↔ wp 166 362 [l0, l1, l2, l3] [.inl (w32 (x + z)), v0, v1, v2, v3, v4] h Q := wp_step dL_law_361 (fun _ => rfl)
theorem s166_362 (ha : tg a = 100) (h0 : 0 ≤ x) (h1 : x < ln S a) : wp 166 362 [l0, l1, l2, l3] [.inl x, .inr a, v0, v1, v2, v3] (hp S D) Q ↔ wp 166 363 [l0, l1, l2, l3] [.inl (rd S D a x.toNat), v0, v1, v2, v3] (hp S D) Q := w_iald dL_law_362 ha h0 h1
theorem s166_363 (ha : tg a = 8) : wp 166 363 [l0, l1, l2, l3] [p2, p1, p0, .inr a, v0] (hp S D) Q ↔ wp 140 0 [.inr a, p0, p1, p2] [] (hp S D) (kont 166 366 [l0, l1, l2, l3] [v0] Q) := w_callV (y2 := 140) (vs := [p0, p1, p2]) (st := [v0]) dL_law_363 (by decide +kernel) rfl (by decide +kernel) (Nat.le_of_ble_eq_true rfl) (by simp) 8 rfl (by decide) ha
theorem s166_366  : wp 166 366 [l0, l1, l2, l3] [.inl z, .inl x] h Q ↔ if x = z then wp 166 711 [l0, l1, l2, l3] [] h Q else wp 166 369 [l0, l1, l2, l3] [] h Q := w_ceq dL_law_366 (by decide)
theorem s166_369  : wp 166 369 [l0, l1, l2, l3] [] h Q ↔ wp 166 370 [l0, l1, l2, l3] [.inl 0] h Q := w_const1 dL_law_369 k_0
theorem s166_370 (h0 : x = 0 ∨ x = 1) : wp 166 370 [l0, l1, l2, l3] [.inl x] h Q ↔ Q (some (.inl x)) h := w_reti dL_law_370 (e_rz (by decide +kernel) h0)
theorem s166_371 (h0 : a ≠ 0) : wp 166 371 [l0, .inr a, l2, l3] [] h Q ↔ wp 166 372 [l0, .inr a, l2, l3] [.inr a] h Q := wp_step dL_law_371 (fun _ => if_neg h0)
theorem s166_372 (ha : tg a = 7) : wp 166 372 [l0, l1, l2, l3] [.inr a] (hp S D) Q ↔ wp 75 0 [.inr a, .inr 0] [] (hp S D) (kont 166 375 [l0, l1, l2, l3] [] Q) := w_callV (y2 := 75) (vs := []) (st := []) dL_law_372 (by decide +kernel) rfl (by decide +kernel) (Nat.le_of_ble_eq_true rfl) (by simp) 7 rfl (by decide) ha
theorem s166_375 (h0 : a ≠ 0) : wp 166 375 [l0, l1, .inr a, l3] [v0] h Q ↔ wp 166 376 [l0, l1, .inr a, l3] [.inr a, v0] h Q := wp_step dL_law_375 (fun _ => if_neg h0)
theorem s166_376 (ha : tg a = 8) : wp 166 376 [l0, l1, l2, l3] [.inr a, v0] (hp S D) Q ↔ wp 151 0 [.inr a, .inr 0] [] (hp S D) (kont 166 379 [l0, l1, l2, l3] [v0] Q) := w_callV (y2 := 151) (vs := []) (st := [v0]) dL_law_376 (by decide +kernel) rfl (by decide +kernel) (Nat.le_of_ble_eq_true rfl) (by simp) 8 rfl (by decide) ha
theorem s166_379  : wp 166 379 [l0, l1, l2, l3] [.inl z, .inl x] h Q ↔ if x = z then wp 166 711 [l0, l1, l2, l3] [] h Q else wp 166 382 [l0, l1, l2, l3] [] h Q := w_ceq dL_law_379 (by decide)
theorem s166_382  : wp 166 382 [l0, l1, l2, l3] [] h Q ↔ wp 166 383 [l0, l1, l2, l3] [.inl 0] h Q := w_const1 dL_law_382 k_0
theorem s166_383 (h0 : x = 0 ∨ x = 1) : wp 166 383 [l0, l1, l2, l3] [.inl x] h Q ↔ Q (some (.inl x)) h := w_reti dL_law_383 (e_rz (by decide +kernel) h0)
theorem s166_384 (h0 : a ≠ 0) : wp 166 384 [l0, .inr a, l2, l3] [] h Q ↔ wp 166 385 [l0, .inr a, l2, l3] [.inr a] h Q := wp_step dL_law_384 (fun _ => if_neg h0)
theorem s166_385 (h0 : a ≠ 0) : wp 166 385 [.inr a, l1, l2, l3] [v0] h Q ↔ wp 166 386 [.inr a, l1, l2, l3] [.inr a, v0] h Q := wp_step dL_law_385 (fun _ => if_neg h0)
theorem s166_386  : wp 166 386 [l0, l1, l2, .inl x] [v0, v1] h Q ↔ wp 166 387 [l0, l1, l2, .inl x] [.inl x, v0, v1] h Q := wp_step dL_law_386 (fun _ => rfl)
theorem s166_387  : wp 166 387 [l0, l1, l2, l3] [v0, v1, v2] h Q ↔ wp 166 388 [l0, l1, l2, l3] [.inl 1, v0, v1, v2] h Q := w_const1 dL_law_387 k_1
theorem s166_388  : wp 166 388 [l0, l1, l2, l3] [.inl z, .inl x, v0, v1] h Q ↔ wp 166 389 [l0, l1, l2, l3] [.inl (w32 (x + z)), v0, v1] h Q := wp_step dL_law_388 (fun _ => rfl)
theorem s166_389 (ha : tg a = 100) (h0 : 0 ≤ x) (h1 : x < ln S a) : wp 166 389 [l0, l1, l2, l3] [.inl x, .inr a, v0] (hp S D) Q ↔ wp 166 390 [l0, l1, l2, l3] [.inl (rd S D a x.toNat), v0] (hp S D) Q := w_iald dL_law_389 ha h0 h1
theorem s166_390 (ha : tg a = 7) : wp 166 390 [l0, l1, l2, l3] [p0, .inr a] (hp S D) Q ↔ wp 76 0 [.inr a, p0, .inr 0, .inr 0] [] (hp S D) (kont 166 393 [l0, l1, l2, l3] [] Q) := w_callV (y2 := 76) (vs := [p0]) (st := []) dL_law_390 (by decide +kernel) rfl (by decide +kernel) (Nat.le_of_ble_eq_true rfl) (by simp) 7 rfl (by decide) ha
theorem s166_393 (h0 : a ≠ 0) : wp 166 393 [l0, l1, .inr a, l3] [v0] h Q ↔ wp 166 394 [l0, l1, .inr a, l3] [.inr a, v0] h Q := wp_step dL_law_393 (fun _ => if_neg h0)
theorem s166_394 (h0 : a ≠ 0) : wp 166 394 [.inr a, l1, l2, l3] [v0, v1] h Q ↔ wp 166 395 [.inr a, l1, l2, l3] [.inr a, v0, v1] h Q := wp_step dL_law_394 (fun _ => if_neg h0)
theorem s166_395  : wp 166 395 [l0, l1, l2, .inl x] [v0, v1, v2] h Q ↔ wp 166 396 [l0, l1, l2, .inl x] [.inl x, v0, v1, v2] h Q := wp_step dL_law_395 (fun _ => rfl)
theorem s166_396  : wp 166 396 [l0, l1, l2, l3] [v0, v1, v2, v3] h Q ↔ wp 166 397 [l0, l1, l2, l3] [.inl 1, v0, v1, v2, v3] h Q := w_const1 dL_law_396 k_1
theorem s166_397  : wp 166 397 [l0, l1, l2, l3] [.inl z, .inl x, v0, v1, v2] h Q ↔ wp 166 398 [l0, l1, l2, l3] [.inl (w32 (x + z)), v0, v1, v2] h Q := wp_step dL_law_397 (fun _ => rfl)
theorem s166_398 (ha : tg a = 100) (h0 : 0 ≤ x) (h1 : x < ln S a) : wp 166 398 [l0, l1, l2, l3] [.inl x, .inr a, v0, v1] (hp S D) Q ↔ wp 166 399 [l0, l1, l2, l3] [.inl (rd S D a x.toNat), v0, v1] (hp S D) Q := w_iald dL_law_398 ha h0 h1
theorem s166_399 (ha : tg a = 8) : wp 166 399 [l0, l1, l2, l3] [p0, .inr a, v0] (hp S D) Q ↔ wp 141 0 [.inr a, p0, .inr 0, .inr 0] [] (hp S D) (kont 166 402 [l0, l1, l2, l3] [v0] Q) := w_callV (y2 := 141) (vs := [p0]) (st := [v0]) dL_law_399 (by decide +kernel) rfl (by decide +kernel) (Nat.le_of_ble_eq_true rfl) (by simp) 8 rfl (by decide) ha
theorem s166_402  : wp 166 402 [l0, l1, l2, l3] [.inl z, .inl x] h Q ↔ if x = z then wp 166 711 [l0, l1, l2, l3] [] h Q else wp 166 405 [l0, l1, l2, l3] [] h Q := w_ceq dL_law_402 (by decide)
theorem s166_405  : wp 166 405 [l0, l1, l2, l3] [] h Q ↔ wp 166 406 [l0, l1, l2, l3] [.inl 0] h Q := w_const1 dL_law_405 k_0
theorem s166_406 (h0 : x = 0 ∨ x = 1) : wp 166 406 [l0, l1, l2, l3] [.inl x] h Q ↔ Q (some (.inl x)) h := w_reti dL_law_406 (e_rz (by decide +kernel) h0)
theorem s166_407 (h0 : a ≠ 0) : wp 166 407 [l0, .inr a, l2, l3] [] h Q ↔ wp 166 408 [l0, .inr a, l2, l3] [.inr a] h Q := wp_step dL_law_407 (fun _ => if_neg h0)
theorem s166_408 (h0 : a ≠ 0) : wp 166 408 [.inr a, l1, l2, l3] [v0] h Q ↔ wp 166 409 [.inr a, l1, l2, l3] [.inr a, v0] h Q := wp_step dL_law_408 (fun _ => if_neg h0)
theorem s166_409  : wp 166 409 [l0, l1, l2, .inl x] [v0, v1] h Q ↔ wp 166 410 [l0, l1, l2, .inl x] [.inl x, v0, v1] h Q := wp_step dL_law_409 (fun _ => rfl)
theorem s166_410  : wp 166 410 [l0, l1, l2, l3] [v0, v1, v2] h Q ↔ wp 166 411 [l0, l1, l2, l3] [.inl 1, v0, v1, v2] h Q := w_const1 dL_law_410 k_1
theorem s166_411  : wp 166 411 [l0, l1, l2, l3] [.inl z, .inl x, v0, v1] h Q ↔ wp 166 412 [l0, l1, l2, l3] [.inl (w32 (x + z)), v0, v1] h Q := wp_step dL_law_411 (fun _ => rfl)
theorem s166_412 (ha : tg a = 100) (h0 : 0 ≤ x) (h1 : x < ln S a) : wp 166 412 [l0, l1, l2, l3] [.inl x, .inr a, v0] (hp S D) Q ↔ wp 166 413 [l0, l1, l2, l3] [.inl (rd S D a x.toNat), v0] (hp S D) Q := w_iald dL_law_412 ha h0 h1
theorem s166_413  : wp 166 413 [l0, l1, l2, l3] [.inl x, v0] h Q ↔ wp 166 414 [l0, l1, l2, l3] [.inl ((Int32.ofInt x).toUInt32 % 65536).toInt32.toInt, v0] h Q := wp_step dL_law_413 (fun _ => rfl)
theorem s166_414 (ha : tg a = 7) : wp 166 414 [l0, l1, l2, l3] [p0, .inr a] (hp S D) Q ↔ wp 77 0 [.inr a, p0] [] (hp S D) (kont 166 417 [l0, l1, l2, l3] [] Q) := w_callV (y2 := 77) (vs := [p0]) (st := []) dL_law_414 (by decide +kernel) rfl (by decide +kernel) (Nat.le_of_ble_eq_true rfl) (by simp) 7 rfl (by decide) ha
theorem s166_417 (h0 : a ≠ 0) : wp 166 417 [l0, l1, .inr a, l3] [v0] h Q ↔ wp 166 418 [l0, l1, .inr a, l3] [.inr a, v0] h Q := wp_step dL_law_417 (fun _ => if_neg h0)
theorem s166_418 (h0 : a ≠ 0) : wp 166 418 [.inr a, l1, l2, l3] [v0, v1] h Q ↔ wp 166 419 [.inr a, l1, l2, l3] [.inr a, v0, v1] h Q := wp_step dL_law_418 (fun _ => if_neg h0)
theorem s166_419  : wp 166 419 [l0, l1, l2, .inl x] [v0, v1, v2] h Q ↔ wp 166 420 [l0, l1, l2, .inl x] [.inl x, v0, v1, v2] h Q := wp_step dL_law_419 (fun _ => rfl)
theorem s166_420  : wp 166 420 [l0, l1, l2, l3] [v0, v1, v2, v3] h Q ↔ wp 166 421 [l0, l1, l2, l3] [.inl 1, v0, v1, v2, v3] h Q := w_const1 dL_law_420 k_1
theorem s166_421  : wp 166 421 [l0, l1, l2, l3] [.inl z, .inl x, v0, v1, v2] h Q ↔ wp 166 422 [l0, l1, l2, l3] [.inl (w32 (x + z)), v0, v1, v2] h Q := wp_step dL_law_421 (fun _ => rfl)
theorem s166_422 (ha : tg a = 100) (h0 : 0 ≤ x) (h1 : x < ln S a) : wp 166 422 [l0, l1, l2, l3] [.inl x, .inr a, v0, v1] (hp S D) Q ↔ wp 166 423 [l0, l1, l2, l3] [.inl (rd S D a x.toNat), v0, v1] (hp S D) Q := w_iald dL_law_422 ha h0 h1
theorem s166_423  : wp 166 423 [l0, l1, l2, l3] [.inl x, v0, v1] h Q ↔ wp 166 424 [l0, l1, l2, l3] [.inl ((Int32.ofInt x).toUInt32 % 65536).toInt32.toInt, v0, v1] h Q := wp_step dL_law_423 (fun _ => rfl)
theorem s166_424 (ha : tg a = 8) : wp 166 424 [l0, l1, l2, l3] [p0, .inr a, v0] (hp S D) Q ↔ wp 142 0 [.inr a, p0] [] (hp S D) (kont 166 427 [l0, l1, l2, l3] [v0] Q) := w_callV (y2 := 142) (vs := [p0]) (st := [v0]) dL_law_424 (by decide +kernel) rfl (by decide +kernel) (Nat.le_of_ble_eq_true rfl) (by simp) 8 rfl (by decide) ha
theorem s166_427  : wp 166 427 [l0, l1, l2, l3] [.inl z, .inl x] h Q ↔ if x = z then wp 166 711 [l0, l1, l2, l3] [] h Q else wp 166 430 [l0, l1, l2, l3] [] h Q := w_ceq dL_law_427 (by decide)
theorem s166_430  : wp 166 430 [l0, l1, l2, l3] [] h Q ↔ wp 166 431 [l0, l1, l2, l3] [.inl 0] h Q := w_const1 dL_law_430 k_0
theorem s166_431 (h0 : x = 0 ∨ x = 1) : wp 166 431 [l0, l1, l2, l3] [.inl x] h Q ↔ Q (some (.inl x)) h := w_reti dL_law_431 (e_rz (by decide +kernel) h0)
theorem s166_432 (h0 : a ≠ 0) : wp 166 432 [l0, .inr a, l2, l3] [] h Q ↔ wp 166 433 [l0, .inr a, l2, l3] [.inr a] h Q := wp_step dL_law_432 (fun _ => if_neg h0)
theorem s166_433 (ha : tg a = 7) : wp 166 433 [l0, l1, l2, l3] [.inr a] (hp S D) Q ↔ wp 78 0 [.inr a, .inr 0] [] (hp S D) (kont 166 436 [l0, l1, l2, l3] [] Q) := w_callV (y2 := 78) (vs := []) (st := []) dL_law_433 (by decide +kernel) rfl (by decide +kernel) (Nat.le_of_ble_eq_true rfl) (by simp) 7 rfl (by decide) ha
theorem s166_436 (h0 : a ≠ 0) : wp 166 436 [l0, l1, .inr a, l3] [v0] h Q ↔ wp 166 437 [l0, l1, .inr a, l3] [.inr a, v0] h Q := wp_step dL_law_436 (fun _ => if_neg h0)
theorem s166_437 (ha : tg a = 8) : wp 166 437 [l0, l1, l2, l3] [.inr a, v0] (hp S D) Q ↔ wp 143 0 [.inr a, .inr 0] [] (hp S D) (kont 166 440 [l0, l1, l2, l3] [v0] Q) := w_callV (y2 := 143) (vs := []) (st := [v0]) dL_law_437 (by decide +kernel) rfl (by decide +kernel) (Nat.le_of_ble_eq_true rfl) (by simp) 8 rfl (by decide) ha
theorem s166_440  : wp 166 440 [l0, l1, l2, l3] [.inl z, .inl x] h Q ↔ if x = z then wp 166 711 [l0, l1, l2, l3] [] h Q else wp 166 443 [l0, l1, l2, l3] [] h Q := w_ceq dL_law_440 (by decide)
theorem s166_443  : wp 166 443 [l0, l1, l2, l3] [] h Q ↔ wp 166 444 [l0, l1, l2, l3] [.inl 0] h Q := w_const1 dL_law_443 k_0
theorem s166_444 (h0 : x = 0 ∨ x = 1) : wp 166 444 [l0, l1, l2, l3] [.inl x] h Q ↔ Q (some (.inl x)) h := w_reti dL_law_444 (e_rz (by decide +kernel) h0)
theorem s166_445 (h0 : a ≠ 0) : wp 166 445 [l0, .inr a, l2, l3] [] h Q ↔ wp 166 446 [l0, .inr a, l2, l3] [.inr a] h Q := wp_step dL_law_445 (fun _ => if_neg h0)
theorem s166_446 (ha : tg a = 7) : wp 166 446 [l0, l1, l2, l3] [.inr a] (hp S D) Q ↔ wp 79 0 [.inr a] [] (hp S D) (kont 166 449 [l0, l1, l2, l3] [] Q) := w_callV (y2 := 79) (vs := []) (st := []) dL_law_446 (by decide +kernel) rfl (by decide +kernel) (Nat.le_of_ble_eq_true rfl) (by simp) 7 rfl (by decide) ha
theorem s166_449 (h0 : a ≠ 0) : wp 166 449 [l0, l1, .inr a, l3] [v0] h Q ↔ wp 166 450 [l0, l1, .inr a, l3] [.inr a, v0] h Q := wp_step dL_law_449 (fun _ => if_neg h0)
theorem s166_450 (ha : tg a = 8) : wp 166 450 [l0, l1, l2, l3] [.inr a, v0] (hp S D) Q ↔ wp 103 0 [.inr a] [] (hp S D) (kont 166 453 [l0, l1, l2, l3] [v0] Q) := w_callV (y2 := 103) (vs := []) (st := [v0]) dL_law_450 (by decide +kernel) rfl (by decide +kernel) (Nat.le_of_ble_eq_true rfl) (by simp) 8 rfl (by decide) ha
theorem s166_453  : wp 166 453 [l0, l1, l2, l3] [.inl z, .inl x] h Q ↔ if x = z then wp 166 711 [l0, l1, l2, l3] [] h Q else wp 166 456 [l0, l1, l2, l3] [] h Q := w_ceq dL_law_453 (by decide)
theorem s166_456  : wp 166 456 [l0, l1, l2, l3] [] h Q ↔ wp 166 457 [l0, l1, l2, l3] [.inl 0] h Q := w_const1 dL_law_456 k_0
theorem s166_457 (h0 : x = 0 ∨ x = 1) : wp 166 457 [l0, l1, l2, l3] [.inl x] h Q ↔ Q (some (.inl x)) h := w_reti dL_law_457 (e_rz (by decide +kernel) h0)
theorem s166_458 (h0 : a ≠ 0) : wp 166 458 [l0, .inr a, l2, l3] [] h Q ↔ wp 166 459 [l0, .inr a, l2, l3] [.inr a] h Q := wp_step dL_law_458 (fun _ => if_neg h0)
theorem s166_459 (ha : tg a = 7) : wp 166 459 [l0, l1, l2, l3] [.inr a] (hp S D) Q ↔ wp 80 0 [.inr a] [] (hp S D) (kont 166 462 [l0, l1, l2, l3] [] Q) := w_callV (y2 := 80) (vs := []) (st := []) dL_law_459 (by decide +kernel) rfl (by decide +kernel) (Nat.le_of_ble_eq_true rfl) (by simp) 7 rfl (by decide) ha
theorem s166_462 (h0 : a ≠ 0) : wp 166 462 [l0, l1, .inr a, l3] [v0] h Q ↔ wp 166 463 [l0, l1, .inr a, l3] [.inr a, v0] h Q := wp_step dL_law_462 (fun _ => if_neg h0)
theorem s166_463 (ha : tg a = 8) : wp 166 463 [l0, l1, l2, l3] [.inr a, v0] (hp S D) Q ↔ wp 104 0 [.inr a] [] (hp S D) (kont 166 466 [l0, l1, l2, l3] [v0] Q) := w_callV (y2 := 104) (vs := []) (st := [v0]) dL_law_463 (by decide +kernel) rfl (by decide +kernel) (Nat.le_of_ble_eq_true rfl) (by simp) 8 rfl (by decide) ha
theorem s166_466  : wp 166 466 [l0, l1, l2, l3] [.inl z, .inl x] h Q ↔ if x = z then wp 166 711 [l0, l1, l2, l3] [] h Q else wp 166 469 [l0, l1, l2, l3] [] h Q := w_ceq dL_law_466 (by decide)
theorem s166_469  : wp 166 469 [l0, l1, l2, l3] [] h Q ↔ wp 166 470 [l0, l1, l2, l3] [.inl 0] h Q := w_const1 dL_law_469 k_0
theorem s166_470 (h0 : x = 0 ∨ x = 1) : wp 166 470 [l0, l1, l2, l3] [.inl x] h Q ↔ Q (some (.inl x)) h := w_reti dL_law_470 (e_rz (by decide +kernel) h0)
theorem s166_471 (h0 : a ≠ 0) : wp 166 471 [l0, .inr a, l2, l3] [] h Q ↔ wp 166 472 [l0, .inr a, l2, l3] [.inr a] h Q := wp_step dL_law_471 (fun _ => if_neg h0)
theorem s166_472 (ha : tg a = 7) : wp 166 472 [l0, l1, l2, l3] [.inr a] (hp S D) Q ↔ wp 81 0 [.inr a] [] (hp S D) (kont 166 475 [l0, l1, l2, l3] [] Q) := w_callV (y2 := 81) (vs := []) (st := []) dL_law_472 (by decide +kernel) rfl (by decide +kernel) (Nat.le_of_ble_eq_true rfl) (by simp) 7 rfl (by decide) ha
theorem s166_475 (h0 : a ≠ 0) : wp 166 475 [l0, l1, .inr a, l3] [v0] h Q ↔ wp 166 476 [l0, l1, .inr a, l3] [.inr a, v0] h Q := wp_step dL_law_475 (fun _ => if_neg h0)
theorem s166_476 (ha : tg a = 8) : wp 166 476 [l0, l1, l2, l3] [.inr a, v0] (hp S D) Q ↔ wp 105 0 [.inr a] [] (hp S D) (kont 166 479 [l0, l1, l2, l3] [v0] Q) := w_callV (y2 := 105) (vs := []) (st := [v0]) dL_law_476 (by decide +kernel) rfl (by decide +kernel) (Nat.le_of_ble_eq_true rfl) (by simp) 8 rfl (by decide) ha
theorem s166_479  : wp 166 479 [l0, l1, l2, l3] [.inl z, .inl x] h Q ↔ if x = z then wp 166 711 [l0, l1, l2, l3] [] h Q else wp 166 482 [l0, l1, l2, l3] [] h Q := w_ceq dL_law_479 (by decide)
theorem s166_482  : wp 166 482 [l0, l1, l2, l3] [] h Q ↔ wp 166 483 [l0, l1, l2, l3] [.inl 0] h Q := w_const1 dL_law_482 k_0
theorem s166_483 (h0 : x = 0 ∨ x = 1) : wp 166 483 [l0, l1, l2, l3] [.inl x] h Q ↔ Q (some (.inl x)) h := w_reti dL_law_483 (e_rz (by decide +kernel) h0)
theorem s166_484 (h0 : a ≠ 0) : wp 166 484 [l0, .inr a, l2, l3] [] h Q ↔ wp 166 485 [l0, .inr a, l2, l3] [.inr a] h Q := wp_step dL_law_484 (fun _ => if_neg h0)
theorem s166_485 (h0 : a ≠ 0) : wp 166 485 [.inr a, l1, l2, l3] [v0] h Q ↔ wp 166 486 [.inr a, l1, l2, l3] [.inr a, v0] h Q := wp_step dL_law_485 (fun _ => if_neg h0)
theorem s166_486  : wp 166 486 [l0, l1, l2, .inl x] [v0, v1] h Q ↔ wp 166 487 [l0, l1, l2, .inl x] [.inl x, v0, v1] h Q := wp_step dL_law_486 (fun _ => rfl)
theorem s166_487  : wp 166 487 [l0, l1, l2, l3] [v0, v1, v2] h Q ↔ wp 166 488 [l0, l1, l2, l3] [.inl 1, v0, v1, v2] h Q := w_const1 dL_law_487 k_1
theorem s166_488  : wp 166 488 [l0, l1, l2, l3] [.inl z, .inl x, v0, v1] h Q ↔ wp 166 489 [l0, l1, l2, l3] [.inl (w32 (x + z)), v0, v1] h Q := wp_step dL_law_488 (fun _ => rfl)
theorem s166_489 (ha : tg a = 100) (h0 : 0 ≤ x) (h1 : x < ln S a) : wp 166 489 [l0, l1, l2, l3] [.inl x, .inr a, v0] (hp S D) Q ↔ wp 166 490 [l0, l1, l2, l3] [.inl (rd S D a x.toNat), v0] (hp S D) Q := w_iald dL_law_489 ha h0 h1
theorem s166_490 (h0 : a ≠ 0) : wp 166 490 [.inr a, l1, l2, l3] [v0, v1] h Q ↔ wp 166 491 [.inr a, l1, l2, l3] [.inr a, v0, v1] h Q := wp_step dL_law_490 (fun _ => if_neg h0)
theorem s166_491  : wp 166 491 [l0, l1, l2, .inl x] [v0, v1, v2] h Q ↔ wp 166 492 [l0, l1, l2, .inl x] [.inl x, v0, v1, v2] h Q := wp_step dL_law_491 (fun _ => rfl)
theorem s166_492  : wp 166 492 [l0, l1, l2, l3] [v0, v1, v2, v3] h Q ↔ wp 166 493 [l0, l1, l2, l3] [.inl 2, v0, v1, v2, v3] h Q := w_const1 dL_law_492 k_2
theorem s166_493  : wp 166 493 [l0, l1, l2, l3] [.inl z, .inl x, v0, v1, v2] h Q ↔ wp 166 494 [l0, l1, l2, l3] [.inl (w32 (x + z)), v0, v1, v2] h Q := wp_step dL_law_493 (fun _ => rfl)
theorem s166_494 (ha : tg a = 100) (h0 : 0 ≤ x) (h1 : x < ln S a) : wp 166 494 [l0, l1, l2, l3] [.inl x, .inr a, v0, v1] (hp S D) Q ↔ wp 166 495 [l0, l1, l2, l3] [.inl (rd S D a x.toNat), v0, v1] (hp S D) Q := w_iald dL_law_494 ha h0 h1
theorem s166_495 (ha : tg a = 7) : wp 166 495 [l0, l1, l2, l3] [p1, p0, .inr a] (hp S D) Q ↔ wp 82 0 [.inr a, p0, p1, .inr 0] [] (hp S D) (kont 166 498 [l0, l1, l2, l3] [] Q) := w_callV (y2 := 82) (vs := [p0, p1]) (st := []) dL_law_495 (by decide +kernel) rfl (by decide +kernel) (Nat.le_of_ble_eq_true rfl) (by simp) 7 rfl (by decide) ha
theorem s166_498 (h0 : a ≠ 0) : wp 166 498 [l0, l1, .inr a, l3] [v0] h Q ↔ wp 166 499 [l0, l1, .inr a, l3] [.inr a, v0] h Q := wp_step dL_law_498 (fun _ => if_neg h0)
theorem s166_499 (h0 : a ≠ 0) : wp 166 499 [.inr a, l1, l2, l3] [v0, v1] h Q ↔ wp 166 500 [.inr a, l1, l2, l3] [.inr a, v0, v1] h Q := wp_step dL_law_499 (fun _ => if_neg h0)
theorem s166_500  : wp 166 500 [l0, l1, l2, .inl x] [v0, v1, v2] h Q ↔ wp 166 501 [l0, l1, l2, .inl x] [.inl x, v0, v1, v2] h Q := wp_step dL_law_500 (fun _ => rfl)
theorem s166_501  : wp 166 501 [l0, l1, l2, l3] [v0, v1, v2, v3] h Q ↔ wp 166 502 [l0, l1, l2, l3] [.inl 1, v0, v1, v2, v3] h Q := w_const1 dL_law_501 k_1
theorem s166_502  : wp 166 502 [l0, l1, l2, l3] [.inl z, .inl x, v0, v1, v2] h Q ↔ wp 166 503 [l0, l1, l2, l3] [.inl (w32 (x + z)), v0, v1, v2] h Q := wp_step dL_law_502 (fun _ => rfl)
theorem s166_503 (ha : tg a = 100) (h0 : 0 ≤ x) (h1 : x < ln S a) : wp 166 503 [l0, l1, l2, l3] [.inl x, .inr a, v0, v1] (hp S D) Q ↔ wp 166 504 [l0, l1, l2, l3] [.inl (rd S D a x.toNat), v0, v1] (hp S D) Q := w_iald dL_law_503 ha h0 h1
theorem s166_504 (h0 : a ≠ 0) : wp 166 504 [.inr a, l1, l2, l3] [v0, v1, v2] h Q ↔ wp 166 505 [.inr a, l1, l2, l3] [.inr a, v0, v1, v2] h Q := wp_step dL_law_504 (fun _ => if_neg h0)
theorem s166_505  : wp 166 505 [l0, l1, l2, .inl x] [v0, v1, v2, v3] h Q ↔ wp 166 506 [l0, l1, l2, .inl x] [.inl x, v0, v1, v2, v3] h Q := wp_step dL_law_505 (fun _ => rfl)
theorem s166_506  : wp 166 506 [l0, l1, l2, l3] [v0, v1, v2, v3, v4] h Q ↔ wp 166 507 [l0, l1, l2, l3] [.inl 2, v0, v1, v2, v3, v4] h Q := w_const1 dL_law_506 k_2
theorem s166_507  : wp 166 507 [l0, l1, l2, l3] [.inl z, .inl x, v0, v1, v2, v3] h Q ↔ wp 166 508 [l0, l1, l2, l3] [.inl (w32 (x + z)), v0, v1, v2, v3] h Q := wp_step dL_law_507 (fun _ => rfl)
theorem s166_508 (ha : tg a = 100) (h0 : 0 ≤ x) (h1 : x < ln S a) : wp 166 508 [l0, l1, l2, l3] [.inl x, .inr a, v0, v1, v2] (hp S D) Q ↔ wp 166 509 [l0, l1, l2, l3] [.inl (rd S D a x.toNat), v0, v1, v2] (hp S D) Q := w_iald dL_law_508 ha h0 h1
theorem s166_509 (ha : tg a = 8) : wp 166 509 [l0, l1, l2, l3] [p1, p0, .inr a, v0] (hp S D) Q ↔ wp 152 0 [.inr a, p0, p1] [] (hp S D) (kont 166 512 [l0, l1, l2, l3] [v0] Q) := w_callV (y2 := 152) (vs := [p0, p1]) (st := [v0]) dL_law_509 (by decide +kernel) rfl (by decide +kernel) (Nat.le_of_ble_eq_true rfl) (by simp) 8 rfl (by decide) ha
theorem s166_512  : wp 166 512 [l0, l1, l2, l3] [.inl z, .inl x] h Q ↔ if x = z then wp 166 711 [l0, l1, l2, l3] [] h Q else wp 166 515 [l0, l1, l2, l3] [] h Q := w_ceq dL_law_512 (by decide)
theorem s166_515  : wp 166 515 [l0, l1, l2, l3] [] h Q ↔ wp 166 516 [l0, l1, l2, l3] [.inl 0] h Q := w_const1 dL_law_515 k_0
theorem s166_516 (h0 : x = 0 ∨ x = 1) : wp 166 516 [l0, l1, l2, l3] [.inl x] h Q ↔ Q (some (.inl x)) h := w_reti dL_law_516 (e_rz (by decide +kernel) h0)
theorem s166_517 (h0 : a ≠ 0) : wp 166 517 [l0, .inr a, l2, l3] [] h Q ↔ wp 166 518 [l0, .inr a, l2, l3] [.inr a] h Q := wp_step dL_law_517 (fun _ => if_neg h0)
theorem s166_518 (h0 : a ≠ 0) : wp 166 518 [.inr a, l1, l2, l3] [v0] h Q ↔ wp 166 519 [.inr a, l1, l2, l3] [.inr a, v0] h Q := wp_step dL_law_518 (fun _ => if_neg h0)
theorem s166_519  : wp 166 519 [l0, l1, l2, .inl x] [v0, v1] h Q ↔ wp 166 520 [l0, l1, l2, .inl x] [.inl x, v0, v1] h Q := wp_step dL_law_519 (fun _ => rfl)
theorem s166_520  : wp 166 520 [l0, l1, l2, l3] [v0, v1, v2] h Q ↔ wp 166 521 [l0, l1, l2, l3] [.inl 1, v0, v1, v2] h Q := w_const1 dL_law_520 k_1
theorem s166_521  : wp 166 521 [l0, l1, l2, l3] [.inl z, .inl x, v0, v1] h Q ↔ wp 166 522 [l0, l1, l2, l3] [.inl (w32 (x + z)), v0, v1] h Q := wp_step dL_law_521 (fun _ => rfl)
theorem s166_522 (ha : tg a = 100) (h0 : 0 ≤ x) (h1 : x < ln S a) : wp 166 522 [l0, l1, l2, l3] [.inl x, .inr a, v0] (hp S D) Q ↔ wp 166 523 [l0, l1, l2, l3] [.inl (rd S D a x.toNat), v0] (hp S D) Q := w_iald dL_law_522 ha h0 h1
theorem s166_523 (ha : tg a = 7) : wp 166 523 [l0, l1, l2, l3] [p0, .inr a] (hp S D) Q ↔ wp 83 0 [.inr a, p0] [] (hp S D) (kont 166 526 [l0, l1, l2, l3] [] Q) := w_callV (y2 := 83) (vs := [p0]) (st := []) dL_law_523 (by decide +kernel) rfl (by decide +kernel) (Nat.le_of_ble_eq_true rfl) (by simp) 7 rfl (by decide) ha
theorem s166_526 (h0 : a ≠ 0) : wp 166 526 [l0, l1, .inr a, l3] [v0] h Q ↔ wp 166 527 [l0, l1, .inr a, l3] [.inr a, v0] h Q := wp_step dL_law_526 (fun _ => if_neg h0)
theorem s166_527 (h0 : a ≠ 0) : wp 166 527 [.inr a, l1, l2, l3] [v0, v1] h Q ↔ wp 166 528 [.inr a, l1, l2, l3] [.inr a, v0, v1] h Q := wp_step dL_law_527 (fun _ => if_neg h0)
theorem s166_528  : wp 166 528 [l0, l1, l2, .inl x] [v0, v1, v2] h Q ↔ wp 166 529 [l0, l1, l2, .inl x] [.inl x, v0, v1, v2] h Q := wp_step dL_law_528 (fun _ => rfl)
theorem s166_529  : wp 166 529 [l0, l1, l2, l3] [v0, v1, v2, v3] h Q ↔ wp 166 530 [l0, l1, l2, l3] [.inl 1, v0, v1, v2, v3] h Q := w_const1 dL_law_529 k_1
theorem s166_530  : wp 166 530 [l0, l1, l2, l3] [.inl z, .inl x, v0, v1, v2] h Q ↔ wp 166 531 [l0, l1, l2, l3] [.inl (w32 (x + z)), v0, v1, v2] h Q := wp_step dL_law_530 (fun _ => rfl)
theorem s166_531 (ha : tg a = 100) (h0 : 0 ≤ x) (h1 : x < ln S a) : wp 166 531 [l0, l1, l2, l3] [.inl x, .inr a, v0, v1] (hp S D) Q ↔ wp 166 532 [l0, l1, l2, l3] [.inl (rd S D a x.toNat), v0, v1] (hp S D) Q := w_iald dL_law_531 ha h0 h1
theorem s166_532 (ha : tg a = 8) : wp 166 532 [l0, l1, l2, l3] [p0, .inr a, v0] (hp S D) Q ↔ wp 153 0 [.inr a, p0] [] (hp S D) (kont 166 535 [l0, l1, l2, l3] [v0] Q) := w_callV (y2 := 153) (vs := [p0]) (st := [v0]) dL_law_532 (by decide +kernel) rfl (by decide +kernel) (Nat.le_of_ble_eq_true rfl) (by simp) 8 rfl (by decide) ha
theorem s166_535  : wp 166 535 [l0, l1, l2, l3] [.inl z, .inl x] h Q ↔ if x = z then wp 166 711 [l0, l1, l2, l3] [] h Q else wp 166 538 [l0, l1, l2, l3] [] h Q := w_ceq dL_law_535 (by decide)
theorem s166_538  : wp 166 538 [l0, l1, l2, l3] [] h Q ↔ wp 166 539 [l0, l1, l2, l3] [.inl 0] h Q := w_const1 dL_law_538 k_0
theorem s166_539 (h0 : x = 0 ∨ x = 1) : wp 166 539 [l0, l1, l2, l3] [.inl x] h Q ↔ Q (some (.inl x)) h := w_reti dL_law_539 (e_rz (by decide +kernel) h0)
theorem s166_540 (h0 : a ≠ 0) : wp 166 540 [l0, .inr a, l2, l3] [] h Q ↔ wp 166 541 [l0, .inr a, l2, l3] [.inr a] h Q := wp_step dL_law_540 (fun _ => if_neg h0)
theorem s166_541 (h0 : a ≠ 0) : wp 166 541 [.inr a, l1, l2, l3] [v0] h Q ↔ wp 166 542 [.inr a, l1, l2, l3] [.inr a, v0] h Q := wp_step dL_law_541 (fun _ => if_neg h0)
theorem s166_542  : wp 166 542 [l0, l1, l2, .inl x] [v0, v1] h Q ↔ wp 166 543 [l0, l1, l2, .inl x] [.inl x, v0, v1] h Q := wp_step dL_law_542 (fun _ => rfl)
theorem s166_543  : wp 166 543 [l0, l1, l2, l3] [v0, v1, v2] h Q ↔ wp 166 544 [l0, l1, l2, l3] [.inl 1, v0, v1, v2] h Q := w_const1 dL_law_543 k_1
theorem s166_544  : wp 166 544 [l0, l1, l2, l3] [.inl z, .inl x, v0, v1] h Q ↔ wp 166 545 [l0, l1, l2, l3] [.inl (w32 (x + z)), v0, v1] h Q := wp_step dL_law_544 (fun _ => rfl)
theorem s166_545 (ha : tg a = 100) (h0 : 0 ≤ x) (h1 : x < ln S a) : wp 166 545 [l0, l1, l2, l3] [.inl x, .inr a, v0] (hp S D) Q ↔ wp 166 546 [l0, l1, l2, l3] [.inl (rd S D a x.toNat), v0] (hp S D) Q := w_iald dL_law_545 ha h0 h1
theorem s166_546 (ha : tg a = 7) : wp 166 546 [l0, l1, l2, l3] [p0, .inr a] (hp S D) Q ↔ wp 84 0 [.inr a, p0, .inr 0, .inr 0, .inr 0, .inr 0, .inr 0] [] (hp S D) (kont 166 549 [l0, l1, l2, l3] [] Q) := w_callV (y2 := 84) (vs := [p0]) (st := []) dL_law_546 (by decide +kernel) rfl (by decide +kernel) (Nat.le_of_ble_eq_true rfl) (by simp) 7 rfl (by decide) ha
theorem s166_549 (h0 : a ≠ 0) : wp 166 549 [l0, l1, .inr a, l3] [v0] h Q ↔ wp 166 550 [l0, l1, .inr a, l3] [.inr a, v0] h Q := wp_step dL_law_549 (fun _ => if_neg h0)
theorem s166_550 (h0 : a ≠ 0) : wp 166 550 [.inr a, l1, l2, l3] [v0, v1] h Q ↔ wp 166 551 [.inr a, l1, l2, l3] [.inr a, v0, v1] h Q := wp_step dL_law_550 (fun _ => if_neg h0)
theorem s166_551  : wp 166 551 [l0, l1, l2, .inl x] [v0, v1, v2] h Q ↔ wp 166 552 [l0, l1, l2, .inl x] [.inl x, v0, v1, v2] h Q := wp_step dL_law_551 (fun _ => rfl)
theorem s166_552  : wp 166 552 [l0, l1, l2, l3] [v0, v1, v2, v3] h Q ↔ wp 166 553 [l0, l1, l2, l3] [.inl 1, v0, v1, v2, v3] h Q := w_const1 dL_law_552 k_1
theorem s166_553  : wp 166 553 [l0, l1, l2, l3] [.inl z, .inl x, v0, v1, v2] h Q ↔ wp 166 554 [l0, l1, l2, l3] [.inl (w32 (x + z)), v0, v1, v2] h Q := wp_step dL_law_553 (fun _ => rfl)
theorem s166_554 (ha : tg a = 100) (h0 : 0 ≤ x) (h1 : x < ln S a) : wp 166 554 [l0, l1, l2, l3] [.inl x, .inr a, v0, v1] (hp S D) Q ↔ wp 166 555 [l0, l1, l2, l3] [.inl (rd S D a x.toNat), v0, v1] (hp S D) Q := w_iald dL_law_554 ha h0 h1
theorem s166_555 (ha : tg a = 8) : wp 166 555 [l0, l1, l2, l3] [p0, .inr a, v0] (hp S D) Q ↔ wp 154 0 [.inr a, p0, .inr 0] [] (hp S D) (kont 166 558 [l0, l1, l2, l3] [v0] Q) := w_callV (y2 := 154) (vs := [p0]) (st := [v0]) dL_law_555 (by decide +kernel) rfl (by decide +kernel) (Nat.le_of_ble_eq_true rfl) (by simp) 8 rfl (by decide) ha
theorem s166_558  : wp 166 558 [l0, l1, l2, l3] [.inl z, .inl x] h Q ↔ if x = z then wp 166 711 [l0, l1, l2, l3] [] h Q else wp 166 561 [l0, l1, l2, l3] [] h Q := w_ceq dL_law_558 (by decide)
theorem s166_561  : wp 166 561 [l0, l1, l2, l3] [] h Q ↔ wp 166 562 [l0, l1, l2, l3] [.inl 0] h Q := w_const1 dL_law_561 k_0
theorem s166_562 (h0 : x = 0 ∨ x = 1) : wp 166 562 [l0, l1, l2, l3] [.inl x] h Q ↔ Q (some (.inl x)) h := w_reti dL_law_562 (e_rz (by decide +kernel) h0)
theorem s166_563 (h0 : a ≠ 0) : wp 166 563 [l0, .inr a, l2, l3] [] h Q ↔ wp 166 564 [l0, .inr a, l2, l3] [.inr a] h Q := wp_step dL_law_563 (fun _ => if_neg h0)
theorem s166_564 (ha : tg a = 7) : wp 166 564 [l0, l1, l2, l3] [.inr a] (hp S D) Q ↔ wp 85 0 [.inr a, .inr 0] [] (hp S D) (kont 166 567 [l0, l1, l2, l3] [] Q) := w_callV (y2 := 85) (vs := []) (st := []) dL_law_564 (by decide +kernel) rfl (by decide +kernel) (Nat.le_of_ble_eq_true rfl) (by simp) 7 rfl (by decide) ha
theorem s166_567 (h0 : a ≠ 0) : wp 166 567 [l0, l1, .inr a, l3] [v0] h Q ↔ wp 166 568 [l0, l1, .inr a, l3] [.inr a, v0] h Q := wp_step dL_law_567 (fun _ => if_neg h0)
theorem s166_568 (ha : tg a = 8) : wp 166 568 [l0, l1, l2, l3] [.inr a, v0] (hp S D) Q ↔ wp 155 0 [.inr a, .inr 0] [] (hp S D) (kont 166 571 [l0, l1, l2, l3] [v0] Q) := w_callV (y2 := 155) (vs := []) (st := [v0]) dL_law_568 (by decide +kernel) rfl (by decide +kernel) (Nat.le_of_ble_eq_true rfl) (by simp) 8 rfl (by decide) ha
theorem s166_571  : wp 166 571 [l0, l1, l2, l3] [.inl z, .inl x] h Q ↔ if x = z then wp 166 711 [l0, l1, l2, l3] [] h Q else wp 166 574 [l0, l1, l2, l3] [] h Q := w_ceq dL_law_571 (by decide)
theorem s166_574  : wp 166 574 [l0, l1, l2, l3] [] h Q ↔ wp 166 575 [l0, l1, l2, l3] [.inl 0] h Q := w_const1 dL_law_574 k_0
theorem s166_575 (h0 : x = 0 ∨ x = 1) : wp 166 575 [l0, l1, l2, l3] [.inl x] h Q ↔ Q (some (.inl x)) h := w_reti dL_law_575 (e_rz (by decide +kernel) h0)
theorem s166_576 (h0 : a ≠ 0) : wp 166 576 [l0, .inr a, l2, l3] [] h Q ↔ wp 166 577 [l0, .inr a, l2, l3] [.inr a] h Q := wp_step dL_law_576 (fun _ => if_neg h0)
theorem s166_577 (h0 : a ≠ 0) : wp 166 577 [.inr a, l1, l2, l3] [v0] h Q ↔ wp 166 578 [.inr a, l1, l2, l3] [.inr a, v0] h Q := wp_step dL_law_577 (fun _ => if_neg h0)
theorem s166_578  : wp 166 578 [l0, l1, l2, .inl x] [v0, v1] h Q ↔ wp 166 579 [l0, l1, l2, .inl x] [.inl x, v0, v1] h Q := wp_step dL_law_578 (fun _ => rfl)
theorem s166_579  : wp 166 579 [l0, l1, l2, l3] [v0, v1, v2] h Q ↔ wp 166 580 [l0, l1, l2, l3] [.inl 1, v0, v1, v2] h Q := w_const1 dL_law_579 k_1
theorem s166_580  : wp 166 580 [l0, l1, l2, l3] [.inl z, .inl x, v0, v1] h Q ↔ wp 166 581 [l0, l1, l2, l3] [.inl (w32 (x + z)), v0, v1] h Q := wp_step dL_law_580 (fun _ => rfl)
theorem s166_581 (ha : tg a = 100) (h0 : 0 ≤ x) (h1 : x < ln S a) : wp 166 581 [l0, l1, l2, l3] [.inl x, .inr a, v0] (hp S D) Q ↔ wp 166 582 [l0, l1, l2, l3] [.inl (rd S D a x.toNat), v0] (hp S D) Q := w_iald dL_law_581 ha h0 h1
theorem s166_582 (ha : tg a = 7) : wp 166 582 [l0, l1, l2, l3] [p0, .inr a] (hp S D) Q ↔ wp 86 0 [.inr a, p0] [] (hp S D) (kont 166 585 [l0, l1, l2, l3] [] Q) := w_callV (y2 := 86) (vs := [p0]) (st := []) dL_law_582 (by decide +kernel) rfl (by decide +kernel) (Nat.le_of_ble_eq_true rfl) (by simp) 7 rfl (by decide) ha
theorem s166_585 (h0 : a ≠ 0) : wp 166 585 [l0, l1, .inr a, l3] [v0] h Q ↔ wp 166 586 [l0, l1, .inr a, l3] [.inr a, v0] h Q := wp_step dL_law_585 (fun _ => if_neg h0)
theorem s166_586 (h0 : a ≠ 0) : wp 166 586 [.inr a, l1, l2, l3] [v0, v1] h Q ↔ wp 166 587 [.inr a, l1, l2, l3] [.inr a, v0, v1] h Q := wp_step dL_law_586 (fun _ => if_neg h0)
theorem s166_587  : wp 166 587 [l0, l1, l2, .inl x] [v0, v1, v2] h Q ↔ wp 166 588 [l0, l1, l2, .inl x] [.inl x, v0, v1, v2] h Q := wp_step dL_law_587 (fun _ => rfl)
theorem s166_588  : wp 166 588 [l0, l1, l2, l3] [v0, v1, v2, v3] h Q ↔ wp 166 589 [l0, l1, l2, l3] [.inl 1, v0, v1, v2, v3] h Q := w_const1 dL_law_588 k_1
theorem s166_589  : wp 166 589 [l0, l1, l2, l3] [.inl z, .inl x, v0, v1, v2] h Q ↔ wp 166 590 [l0, l1, l2, l3] [.inl (w32 (x + z)), v0, v1, v2] h Q := wp_step dL_law_589 (fun _ => rfl)
theorem s166_590 (ha : tg a = 100) (h0 : 0 ≤ x) (h1 : x < ln S a) : wp 166 590 [l0, l1, l2, l3] [.inl x, .inr a, v0, v1] (hp S D) Q ↔ wp 166 591 [l0, l1, l2, l3] [.inl (rd S D a x.toNat), v0, v1] (hp S D) Q := w_iald dL_law_590 ha h0 h1
theorem s166_591 (ha : tg a = 8) : wp 166 591 [l0, l1, l2, l3] [p0, .inr a, v0] (hp S D) Q ↔ wp 157 0 [.inr a, p0, .inr 0, .inr 0, .inr 0, .inr 0] [] (hp S D) (kont 166 594 [l0, l1, l2, l3] [v0] Q) := w_callV (y2 := 157) (vs := [p0]) (st := [v0]) dL_law_591 (by decide +kernel) rfl (by decide +kernel) (Nat.le_of_ble_eq_true rfl) (by simp) 8 rfl (by decide) ha
theorem s166_594  : wp 166 594 [l0, l1, l2, l3] [.inl z, .inl x] h Q ↔ if x = z then wp 166 711 [l0, l1, l2, l3] [] h Q else wp 166 597 [l0, l1, l2, l3] [] h Q := w_ceq dL_law_594 (by decide)
theorem s166_597  : wp 166 597 [l0, l1, l2, l3] [] h Q ↔ wp 166 598 [l0, l1, l2, l3] [.inl 0] h Q := w_const1 dL_law_597 k_0
theorem s166_598 (h0 : x = 0 ∨ x = 1) : wp 166 598 [l0, l1, l2, l3] [.inl x] h Q ↔ Q (some (.inl x)) h := w_reti dL_law_598 (e_rz (by decide +kernel) h0)
theorem s166_599 (h0 : a ≠ 0) : wp 166 599 [l0, .inr a, l2, l3] [] h Q ↔ wp 166 600 [l0, .inr a, l2, l3] [.inr a] h Q := wp_step dL_law_599 (fun _ => if_neg h0)
theorem s166_600 (h0 : a ≠ 0) : wp 166 600 [.inr a, l1, l2, l3] [v0] h Q ↔ wp 166 601 [.inr a, l1, l2, l3] [.inr a, v0] h Q := wp_step dL_law_600 (fun _ => if_neg h0)
theorem s166_601  : wp 166 601 [l0, l1, l2, .inl x] [v0, v1] h Q ↔ wp 166 602 [l0, l1, l2, .inl x] [.inl x, v0, v1] h Q := wp_step dL_law_601 (fun _ => rfl)
theorem s166_602  : wp 166 602 [l0, l1, l2, l3] [v0, v1, v2] h Q ↔ wp 166 603 [l0, l1, l2, l3] [.inl 1, v0, v1, v2] h Q := w_const1 dL_law_602 k_1
theorem s166_603  : wp 166 603 [l0, l1, l2, l3] [.inl z, .inl x, v0, v1] h Q ↔ wp 166 604 [l0, l1, l2, l3] [.inl (w32 (x + z)), v0, v1] h Q := wp_step dL_law_603 (fun _ => rfl)
theorem s166_604 (ha : tg a = 100) (h0 : 0 ≤ x) (h1 : x < ln S a) : wp 166 604 [l0, l1, l2, l3] [.inl x, .inr a, v0] (hp S D) Q ↔ wp 166 605 [l0, l1, l2, l3] [.inl (rd S D a x.toNat), v0] (hp S D) Q := w_iald dL_law_604 ha h0 h1
theorem s166_605 (h0 : a ≠ 0) : wp 166 605 [.inr a, l1, l2, l3] [v0, v1] h Q ↔ wp 166 606 [.inr a, l1, l2, l3] [.inr a, v0, v1] h Q := wp_step dL_law_605 (fun _ => if_neg h0)
theorem s166_606  : wp 166 606 [l0, l1, l2, .inl x] [v0, v1, v2] h Q ↔ wp 166 607 [l0, l1, l2, .inl x] [.inl x, v0, v1, v2] h Q := wp_step dL_law_606 (fun _ => rfl)
theorem s166_607  : wp 166 607 [l0, l1, l2, l3] [v0, v1, v2, v3] h Q ↔ wp 166 608 [l0, l1, l2, l3] [.inl 2, v0, v1, v2, v3] h Q := w_const1 dL_law_607 k_2
theorem s166_608  : wp 166 608 [l0, l1, l2, l3] [.inl z, .inl x, v0, v1, v2] h Q ↔ wp 166 609 [l0, l1, l2, l3] [.inl (w32 (x + z)), v0, v1, v2] h Q := wp_step dL_law_608 (fun _ => rfl)
theorem s166_609 (ha : tg a = 100) (h0 : 0 ≤ x) (h1 : x < ln S a) : wp 166 609 [l0, l1, l2, l3] [.inl x, .inr a, v0, v1] (hp S D) Q ↔ wp 166 610 [l0, l1, l2, l3] [.inl (rd S D a x.toNat), v0, v1] (hp S D) Q := w_iald dL_law_609 ha h0 h1
theorem s166_610 (ha : tg a = 7) : wp 166 610 [l0, l1, l2, l3] [p1, p0, .inr a] (hp S D) Q ↔ wp 87 0 [.inr a, p0, p1, .inr 0] [] (hp S D) (kont 166 613 [l0, l1, l2, l3] [] Q) := w_callV (y2 := 87) (vs := [p0, p1]) (st := []) dL_law_610 (by decide +kernel) rfl (by decide +kernel) (Nat.le_of_ble_eq_true rfl) (by simp) 7 rfl (by decide) ha
theorem s166_613 (h0 : a ≠ 0) : wp 166 613 [l0, l1, .inr a, l3] [v0] h Q ↔ wp 166 614 [l0, l1, .inr a, l3] [.inr a, v0] h Q := wp_step dL_law_613 (fun _ => if_neg h0)
theorem s166_614 (h0 : a ≠ 0) : wp 166 614 [.inr a, l1, l2, l3] [v0, v1] h Q ↔ wp 166 615 [.inr a, l1, l2, l3] [.inr a, v0, v1] h Q := wp_step dL_law_614 (fun _ => if_neg h0)
theorem s166_615  : wp 166 615 [l0, l1, l2, .inl x] [v0, v1, v2] h Q ↔ wp 166 616 [l0, l1, l2, .inl x] [.inl x, v0, v1, v2] h Q := wp_step dL_law_615 (fun _ => rfl)
theorem s166_616  : wp 166 616 [l0, l1, l2, l3] [v0, v1, v2, v3] h Q ↔ wp 166 617 [l0, l1, l2, l3] [.inl 1, v0, v1, v2, v3] h Q := w_const1 dL_law_616 k_1
theorem s166_617  : wp 166 617 [l0, l1, l2, l3] [.inl z, .inl x, v0, v1, v2] h Q ↔ wp 166 618 [l0, l1, l2, l3] [.inl (w32 (x + z)), v0, v1, v2] h Q := wp_step dL_law_617 (fun _ => rfl)
theorem s166_618 (ha : tg a = 100) (h0 : 0 ≤ x) (h1 : x < ln S a) : wp 166 618 [l0, l1, l2, l3] [.inl x, .inr a, v0, v1] (hp S D) Q ↔ wp 166 619 [l0, l1, l2, l3] [.inl (rd S D a x.toNat), v0, v1] (hp S D) Q := w_iald dL_law_618 ha h0 h1
theorem s166_619 (h0 : a ≠ 0) : wp 166 619 [.inr a, l1, l2, l3] [v0, v1, v2] h Q ↔ wp 166 620 [.inr a, l1, l2, l3] [.inr a, v0, v1, v2] h Q := wp_step dL_law_619 (fun _ => if_neg h0)
theorem s166_620  : wp 166 620 [l0, l1, l2, .inl x] [v0, v1, v2, v3] h Q ↔ wp 166 621 [l0, l1, l2, .inl x] [.inl x, v0, v1, v2, v3] h Q := wp_step dL_law_620 (fun _ => rfl)
theorem s166_621  : wp 166 621 [l0, l1, l2, l3] [v0, v1, v2, v3, v4] h Q ↔ wp 166 622 [l0, l1, l2, l3] [.inl 2, v0, v1, v2, v3, v4] h Q := w_const1 dL_law_621 k_2
theorem s166_622  : wp 166 622 [l0, l1, l2, l3] [.inl z, .inl x, v0, v1, v2, v3] h Q ↔ wp 166 623 [l0, l1, l2, l3] [.inl (w32 (x + z)), v0, v1, v2, v3] h Q := wp_step dL_law_622 (fun _ => rfl)
theorem s166_623 (ha : tg a = 100) (h0 : 0 ≤ x) (h1 : x < ln S a) : wp 166 623 [l0, l1, l2, l3] [.inl x, .inr a, v0, v1, v2] (hp S D) Q ↔ wp 166 624 [l0, l1, l2, l3] [.inl (rd S D a x.toNat), v0, v1, v2] (hp S D) Q := w_iald dL_law_623 ha h0 h1
theorem s166_624 (ha : tg a = 8) : wp 166 624 [l0, l1, l2, l3] [p1, p0, .inr a, v0] (hp S D) Q ↔ wp 158 0 [.inr a, p0, p1] [] (hp S D) (kont 166 627 [l0, l1, l2, l3] [v0] Q) := w_callV (y2 := 158) (vs := [p0, p1]) (st := [v0]) dL_law_624 (by decide +kernel) rfl (by decide +kernel) (Nat.le_of_ble_eq_true rfl) (by simp) 8 rfl (by decide) ha
theorem s166_627  : wp 166 627 [l0, l1, l2, l3] [.inl z, .inl x] h Q ↔ if x = z then wp 166 711 [l0, l1, l2, l3] [] h Q else wp 166 630 [l0, l1, l2, l3] [] h Q := w_ceq dL_law_627 (by decide)
theorem s166_630  : wp 166 630 [l0, l1, l2, l3] [] h Q ↔ wp 166 631 [l0, l1, l2, l3] [.inl 0] h Q := w_const1 dL_law_630 k_0
theorem s166_631 (h0 : x = 0 ∨ x = 1) : wp 166 631 [l0, l1, l2, l3] [.inl x] h Q ↔ Q (some (.inl x)) h := w_reti dL_law_631 (e_rz (by decide +kernel) h0)
theorem s166_632 (h0 : a ≠ 0) : wp 166 632 [l0, .inr a, l2, l3] [] h Q ↔ wp 166 633 [l0, .inr a, l2, l3] [.inr a] h Q := wp_step dL_law_632 (fun _ => if_neg h0)
theorem s166_633 (h0 : a ≠ 0) : wp 166 633 [.inr a, l1, l2, l3] [v0] h Q ↔ wp 166 634 [.inr a, l1, l2, l3] [.inr a, v0] h Q := wp_step dL_law_633 (fun _ => if_neg h0)
theorem s166_634  : wp 166 634 [l0, l1, l2, .inl x] [v0, v1] h Q ↔ wp 166 635 [l0, l1, l2, .inl x] [.inl x, v0, v1] h Q := wp_step dL_law_634 (fun _ => rfl)
theorem s166_635  : wp 166 635 [l0, l1, l2, l3] [v0, v1, v2] h Q ↔ wp 166 636 [l0, l1, l2, l3] [.inl 1, v0, v1, v2] h Q := w_const1 dL_law_635 k_1
theorem s166_636  : wp 166 636 [l0, l1, l2, l3] [.inl z, .inl x, v0, v1] h Q ↔ wp 166 637 [l0, l1, l2, l3] [.inl (w32 (x + z)), v0, v1] h Q := wp_step dL_law_636 (fun _ => rfl)
theorem s166_637 (ha : tg a = 100) (h0 : 0 ≤ x) (h1 : x < ln S a) : wp 166 637 [l0, l1, l2, l3] [.inl x, .inr a, v0] (hp S D) Q ↔ wp 166 638 [l0, l1, l2, l3] [.inl (rd S D a x.toNat), v0] (hp S D) Q := w_iald dL_law_637 ha h0 h1
theorem s166_638 (h0 : a ≠ 0) : wp 166 638 [.inr a, l1, l2, l3] [v0, v1] h Q ↔ wp 166 639 [.inr a, l1, l2, l3] [.inr a, v0, v1] h Q := wp_step dL_law_638 (fun _ => if_neg h0)
theorem s166_639  : wp 166 639 [l0, l1, l2, .inl x] [v0, v1, v2] h Q ↔ wp 166 640 [l0, l1, l2, .inl x] [.inl x, v0, v1, v2] h Q := wp_step dL_law_639 (fun _ => rfl)
theorem s166_640  : wp 166 640 [l0, l1, l2, l3] [v0, v1, v2, v3] h Q ↔ wp 166 641 [l0, l1, l2, l3] [.inl 2, v0, v1, v2, v3] h Q := w_const1 dL_law_640 k_2
theorem s166_641  : wp 166 641 [l0, l1, l2, l3] [.inl z, .inl x, v0, v1, v2] h Q ↔ wp 166 642 [l0, l1, l2, l3] [.inl (w32 (x + z)), v0, v1, v2] h Q := wp_step dL_law_641 (fun _ => rfl)
theorem s166_642 (ha : tg a = 100) (h0 : 0 ≤ x) (h1 : x < ln S a) : wp 166 642 [l0, l1, l2, l3] [.inl x, .inr a, v0, v1] (hp S D) Q ↔ wp 166 643 [l0, l1, l2, l3] [.inl (rd S D a x.toNat), v0, v1] (hp S D) Q := w_iald dL_law_642 ha h0 h1
theorem s166_643 (ha : tg a = 7) : wp 166 643 [l0, l1, l2, l3] [p1, p0, .inr a] (hp S D) Q ↔ wp 88 0 [.inr a, p0, p1, .inr 0] [] (hp S D) (kont 166 646 [l0, l1, l2, l3] [] Q) := w_callV (y2 := 88) (vs := [p0, p1]) (st := []) dL_law_643 (by decide +kernel) rfl (by decide +kernel) (Nat.le_of_ble_eq_true rfl) (by simp) 7 rfl (by decide) ha
theorem s166_646 (h0 : a ≠ 0) : wp 166 646 [l0, l1, .inr a, l3] [v0] h Q ↔ wp 166 647 [l0, l1, .inr a, l3] [.inr a, v0] h Q := wp_step dL_law_646 (fun _ => if_neg h0)
theorem s166_647 (h0 : a ≠ 0) : wp 166 647 [.inr a, l1, l2, l3] [v0, v1] h Q ↔ wp 166 648 [.inr a, l1, l2, l3] [.inr a, v0, v1] h Q := wp_step dL_law_647 (fun _ => if_neg h0)
theorem s166_648  : wp 166 648 [l0, l1, l2, .inl x] [v0, v1, v2] h Q ↔ wp 166 649 [l0, l1, l2, .inl x] [.inl x, v0, v1, v2] h Q := wp_step dL_law_648 (fun _ => rfl)
theorem s166_649  : wp 166 649 [l0, l1, l2, l3] [v0, v1, v2, v3] h Q ↔ wp 166 650 [l0, l1, l2, l3] [.inl 1, v0, v1, v2, v3] h Q := w_const1 dL_law_649 k_1
theorem s166_650  : wp 166 650 [l0, l1, l2, l3] [.inl z, .inl x, v0, v1, v2] h Q ↔ wp 166 651 [l0, l1, l2, l3] [.inl (w32 (x + z)), v0, v1, v2] h Q := wp_step dL_law_650 (fun _ => rfl)
theorem s166_651 (ha : tg a = 100) (h0 : 0 ≤ x) (h1 : x < ln S a) : wp 166 651 [l0, l1, l2, l3] [.inl x, .inr a, v0, v1] (hp S D) Q ↔ wp 166 652 [l0, l1, l2, l3] [.inl (rd S D a x.toNat), v0, v1] (hp S D) Q := w_iald dL_law_651 ha h0 h1
theorem s166_652 (h0 : a ≠ 0) : wp 166 652 [.inr a, l1, l2, l3] [v0, v1, v2] h Q ↔ wp 166 653 [.inr a, l1, l2, l3] [.inr a, v0, v1, v2] h Q := wp_step dL_law_652 (fun _ => if_neg h0)
theorem s166_653  : wp 166 653 [l0, l1, l2, .inl x] [v0, v1, v2, v3] h Q ↔ wp 166 654 [l0, l1, l2, .inl x] [.inl x, v0, v1, v2, v3] h Q := wp_step dL_law_653 (fun _ => rfl)
theorem s166_654  : wp 166 654 [l0, l1, l2, l3] [v0, v1, v2, v3, v4] h Q ↔ wp 166 655 [l0, l1, l2, l3] [.inl 2, v0, v1, v2, v3, v4] h Q := w_const1 dL_law_654 k_2
theorem s166_655  : wp 166 655 [l0, l1, l2, l3] [.inl z, .inl x, v0, v1, v2, v3] h Q ↔ wp 166 656 [l0, l1, l2, l3] [.inl (w32 (x + z)), v0, v1, v2, v3] h Q := wp_step dL_law_655 (fun _ => rfl)
theorem s166_656 (ha : tg a = 100) (h0 : 0 ≤ x) (h1 : x < ln S a) : wp 166 656 [l0, l1, l2, l3] [.inl x, .inr a, v0, v1, v2] (hp S D) Q ↔ wp 166 657 [l0, l1, l2, l3] [.inl (rd S D a x.toNat), v0, v1, v2] (hp S D) Q := w_iald dL_law_656 ha h0 h1
theorem s166_657 (ha : tg a = 8) : wp 166 657 [l0, l1, l2, l3] [p1, p0, .inr a, v0] (hp S D) Q ↔ wp 159 0 [.inr a, p0, p1] [] (hp S D) (kont 166 660 [l0, l1, l2, l3] [v0] Q) := w_callV (y2 := 159) (vs := [p0, p1]) (st := [v0]) dL_law_657 (by decide +kernel) rfl (by decide +kernel) (Nat.le_of_ble_eq_true rfl) (by simp) 8 rfl (by decide) ha
theorem s166_660  : wp 166 660 [l0, l1, l2, l3] [.inl z, .inl x] h Q ↔ if x = z then wp 166 711 [l0, l1, l2, l3] [] h Q else wp 166 663 [l0, l1, l2, l3] [] h Q := w_ceq dL_law_660 (by decide)
theorem s166_663  : wp 166 663 [l0, l1, l2, l3] [] h Q ↔ wp 166 664 [l0, l1, l2, l3] [.inl 0] h Q := w_const1 dL_law_663 k_0
theorem s166_664 (h0 : x = 0 ∨ x = 1) : wp 166 664 [l0, l1, l2, l3] [.inl x] h Q ↔ Q (some (.inl x)) h := w_reti dL_law_664 (e_rz (by decide +kernel) h0)
theorem s166_665 (h0 : a ≠ 0) : wp 166 665 [l0, .inr a, l2, l3] [] h Q ↔ wp 166 666 [l0, .inr a, l2, l3] [.inr a] h Q := wp_step dL_law_665 (fun _ => if_neg h0)
theorem s166_666 (h0 : a ≠ 0) : wp 166 666 [.inr a, l1, l2, l3] [v0] h Q ↔ wp 166 667 [.inr a, l1, l2, l3] [.inr a, v0] h Q := wp_step dL_law_666 (fun _ => if_neg h0)
theorem s166_667  : wp 166 667 [l0, l1, l2, .inl x] [v0, v1] h Q ↔ wp 166 668 [l0, l1, l2, .inl x] [.inl x, v0, v1] h Q := wp_step dL_law_667 (fun _ => rfl)
theorem s166_668  : wp 166 668 [l0, l1, l2, l3] [v0, v1, v2] h Q ↔ wp 166 669 [l0, l1, l2, l3] [.inl 1, v0, v1, v2] h Q := w_const1 dL_law_668 k_1
theorem s166_669  : wp 166 669 [l0, l1, l2, l3] [.inl z, .inl x, v0, v1] h Q ↔ wp 166 670 [l0, l1, l2, l3] [.inl (w32 (x + z)), v0, v1] h Q := wp_step dL_law_669 (fun _ => rfl)
theorem s166_670 (ha : tg a = 100) (h0 : 0 ≤ x) (h1 : x < ln S a) : wp 166 670 [l0, l1, l2, l3] [.inl x, .inr a, v0] (hp S D) Q ↔ wp 166 671 [l0, l1, l2, l3] [.inl (rd S D a x.toNat), v0] (hp S D) Q := w_iald dL_law_670 ha h0 h1
theorem s166_671 (ha : tg a = 7) : wp 166 671 [l0, l1, l2, l3] [p0, .inr a] (hp S D) Q ↔ wp 89 0 [.inr a, p0] [] (hp S D) (kont 166 674 [l0, l1, l2, l3] [] Q) := w_callV (y2 := 89) (vs := [p0]) (st := []) dL_law_671 (by decide +kernel) rfl (by decide +kernel) (Nat.le_of_ble_eq_true rfl) (by simp) 7 rfl (by decide) ha
theorem s166_674 (h0 : a ≠ 0) : wp 166 674 [l0, l1, .inr a, l3] [v0] h Q ↔ wp 166 675 [l0, l1, .inr a, l3] [.inr a, v0] h Q := wp_step dL_law_674 (fun _ => if_neg h0)
theorem s166_675 (h0 : a ≠ 0) : wp 166 675 [.inr a, l1, l2, l3] [v0, v1] h Q ↔ wp 166 676 [.inr a, l1, l2, l3] [.inr a, v0, v1] h Q := wp_step dL_law_675 (fun _ => if_neg h0)
theorem s166_676  : wp 166 676 [l0, l1, l2, .inl x] [v0, v1, v2] h Q ↔ wp 166 677 [l0, l1, l2, .inl x] [.inl x, v0, v1, v2] h Q := wp_step dL_law_676 (fun _ => rfl)
theorem s166_677  : wp 166 677 [l0, l1, l2, l3] [v0, v1, v2, v3] h Q ↔ wp 166 678 [l0, l1, l2, l3] [.inl 1, v0, v1, v2, v3] h Q := w_const1 dL_law_677 k_1
theorem s166_678  : wp 166 678 [l0, l1, l2, l3] [.inl z, .inl x, v0, v1, v2] h Q ↔ wp 166 679 [l0, l1, l2, l3] [.inl (w32 (x + z)), v0, v1, v2] h Q := wp_step dL_law_678 (fun _ => rfl)
theorem s166_679 (ha : tg a = 100) (h0 : 0 ≤ x) (h1 : x < ln S a) : wp 166 679 [l0, l1, l2, l3] [.inl x, .inr a, v0, v1] (hp S D) Q ↔ wp 166 680 [l0, l1, l2, l3] [.inl (rd S D a x.toNat), v0, v1] (hp S D) Q := w_iald dL_law_679 ha h0 h1
theorem s166_680 (ha : tg a = 8) : wp 166 680 [l0, l1, l2, l3] [p0, .inr a, v0] (hp S D) Q ↔ wp 161 0 [.inr a, p0] [] (hp S D) (kont 166 683 [l0, l1, l2, l3] [v0] Q) := w_callV (y2 := 161) (vs := [p0]) (st := [v0]) dL_law_680 (by decide +kernel) rfl (by decide +kernel) (Nat.le_of_ble_eq_true rfl) (by simp) 8 rfl (by decide) ha
theorem s166_683  : wp 166 683 [l0, l1, l2, l3] [.inl z, .inl x] h Q ↔ if x = z then wp 166 711 [l0, l1, l2, l3] [] h Q else wp 166 686 [l0, l1, l2, l3] [] h Q := w_ceq dL_law_683 (by decide)
theorem s166_686  : wp 166 686 [l0, l1, l2, l3] [] h Q ↔ wp 166 687 [l0, l1, l2, l3] [.inl 0] h Q := w_const1 dL_law_686 k_0
theorem s166_687 (h0 : x = 0 ∨ x = 1) : wp 166 687 [l0, l1, l2, l3] [.inl x] h Q ↔ Q (some (.inl x)) h := w_reti dL_law_687 (e_rz (by decide +kernel) h0)
theorem s166_688 (h0 : a ≠ 0) : wp 166 688 [l0, .inr a, l2, l3] [] h Q ↔ wp 166 689 [l0, .inr a, l2, l3] [.inr a] h Q := wp_step dL_law_688 (fun _ => if_neg h0)
theorem s166_689 (h0 : a ≠ 0) : wp 166 689 [.inr a, l1, l2, l3] [v0] h Q ↔ wp 166 690 [.inr a, l1, l2, l3] [.inr a, v0] h Q := wp_step dL_law_689 (fun _ => if_neg h0)
theorem s166_690  : wp 166 690 [l0, l1, l2, .inl x] [v0, v1] h Q ↔ wp 166 691 [l0, l1, l2, .inl x] [.inl x, v0, v1] h Q := wp_step dL_law_690 (fun _ => rfl)
theorem s166_691  : wp 166 691 [l0, l1, l2, l3] [v0, v1, v2] h Q ↔ wp 166 692 [l0, l1, l2, l3] [.inl 1, v0, v1, v2] h Q := w_const1 dL_law_691 k_1
theorem s166_692  : wp 166 692 [l0, l1, l2, l3] [.inl z, .inl x, v0, v1] h Q ↔ wp 166 693 [l0, l1, l2, l3] [.inl (w32 (x + z)), v0, v1] h Q := wp_step dL_law_692 (fun _ => rfl)
theorem s166_693 (ha : tg a = 100) (h0 : 0 ≤ x) (h1 : x < ln S a) : wp 166 693 [l0, l1, l2, l3] [.inl x, .inr a, v0] (hp S D) Q ↔ wp 166 694 [l0, l1, l2, l3] [.inl (rd S D a x.toNat), v0] (hp S D) Q := w_iald dL_law_693 ha h0 h1
theorem s166_694 (ha : tg a = 7) : wp 166 694 [l0, l1, l2, l3] [p0, .inr a] (hp S D) Q ↔ wp 90 0 [.inr a, p0] [] (hp S D) (kont 166 697 [l0, l1, l2, l3] [] Q) := w_callV (y2 := 90) (vs := [p0]) (st := []) dL_law_694 (by decide +kernel) rfl (by decide +kernel) (Nat.le_of_ble_eq_true rfl) (by simp) 7 rfl (by decide) ha
theorem s166_697 (h0 : a ≠ 0) : wp 166 697 [l0, l1, .inr a, l3] [v0] h Q ↔ wp 166 698 [l0, l1, .inr a, l3] [.inr a, v0] h Q := wp_step dL_law_697 (fun _ => if_neg h0)
theorem s166_698 (h0 : a ≠ 0) : wp 166 698 [.inr a, l1, l2, l3] [v0, v1] h Q ↔ wp 166 699 [.inr a, l1, l2, l3] [.inr a, v0, v1] h Q := wp_step dL_law_698 (fun _ => if_neg h0)
theorem s166_699  : wp 166 699 [l0, l1, l2, .inl x] [v0, v1, v2] h Q ↔ wp 166 700 [l0, l1, l2, .inl x] [.inl x, v0, v1, v2] h Q := wp_step dL_law_699 (fun _ => rfl)
theorem s166_700  : wp 166 700 [l0, l1, l2, l3] [v0, v1, v2, v3] h Q ↔ wp 166 701 [l0, l1, l2, l3] [.inl 1, v0, v1, v2, v3] h Q := w_const1 dL_law_700 k_1
theorem s166_701  : wp 166 701 [l0, l1, l2, l3] [.inl z, .inl x, v0, v1, v2] h Q ↔ wp 166 702 [l0, l1, l2, l3] [.inl (w32 (x + z)), v0, v1, v2] h Q := wp_step dL_law_701 (fun _ => rfl)
theorem s166_702 (ha : tg a = 100) (h0 : 0 ≤ x) (h1 : x < ln S a) : wp 166 702 [l0, l1, l2, l3] [.inl x, .inr a, v0, v1] (hp S D) Q ↔ wp 166 703 [l0, l1, l2, l3] [.inl (rd S D a x.toNat), v0, v1] (hp S D) Q := w_iald dL_law_702 ha h0 h1
theorem s166_703 (ha : tg a = 8) : wp 166 703 [l0, l1, l2, l3] [p0, .inr a, v0] (hp S D) Q ↔ wp 162 0 [.inr a, p0] [] (hp S D) (kont 166 706 [l0, l1, l2, l3] [v0] Q) := w_callV (y2 := 162) (vs := [p0]) (st := [v0]) dL_law_703 (by decide +kernel) rfl (by decide +kernel) (Nat.le_of_ble_eq_true rfl) (by simp) 8 rfl (by decide) ha
theorem s166_706  : wp 166 706 [l0, l1, l2, l3] [.inl z, .inl x] h Q ↔ if x = z then wp 166 711 [l0, l1, l2, l3] [] h Q else wp 166 709 [l0, l1, l2, l3] [] h Q := w_ceq dL_law_706 (by decide)
theorem s166_709  : wp 166 709 [l0, l1, l2, l3] [] h Q ↔ wp 166 710 [l0, l1, l2, l3] [.inl 0] h Q := w_const1 dL_law_709 k_0
theorem s166_710 (h0 : x = 0 ∨ x = 1) : wp 166 710 [l0, l1, l2, l3] [.inl x] h Q ↔ Q (some (.inl x)) h := w_reti dL_law_710 (e_rz (by decide +kernel) h0)
theorem s166_711  : wp 166 711 [l0, l1, l2, .inl x] [] h Q ↔ wp 166 714 [l0, l1, l2, .inl (w32 (x + 4))] [] h Q := wp_step dL_law_711 (fun _ => rfl)
theorem s166_714  : wp 166 714 [l0, l1, l2, l3] [] h Q ↔ wp 166 18 [l0, l1, l2, l3] [] h Q := w_goto dL_law_714 (by decide)
theorem s166_717  : wp 166 717 [l0, l1, l2, l3] [] h Q ↔ wp 166 718 [l0, l1, l2, l3] [.inl 1] h Q := w_const1 dL_law_717 k_1
theorem s166_718 (h0 : x = 0 ∨ x = 1) : wp 166 718 [l0, l1, l2, l3] [.inl x] h Q ↔ Q (some (.inl x)) h := w_reti dL_law_718 (e_rz (by decide +kernel) h0)
end ESTEP
