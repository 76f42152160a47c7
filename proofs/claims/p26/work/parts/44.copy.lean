/-! rows copied; a lamp burns -/
section SPEC44
variable {S : List Int} {D E : eD} {h : eH} {Q : Option eV → eH → Prop} {v w x s p m t k : Int} {r j a b n : Nat} {F R : eRow} {l0 l1 : eV}
theorem hp_cp (ha : tg a = 100) (hb : tg b = 100) (h8 : 8 ≤ a) (hb8 : 8 ≤ b) (hl : ln S a = n) (hl2 : ln S b = n) : (hp S D).set b (100, xRow (ceF S D a).2 (ceF S D b).2 0 0 n) = hp S (setA D b (D a)) := by
  apply List.ext_getElem?
  intro i
  by_cases hi : i < 158
  · by_cases hib : i = b
    · subst hib
      rw [List.getElem?_set_self (by rw [hp_len]; exact hi), hp_get hi]
      have e2 : (ceF S (setA D i (D a)) i).2 = (List.range (ln S i)).map (slF S (setA D i (D a)) i) := rfl
      have e : xRow (ceF S D a).2 (ceF S D i).2 0 0 n = (ceF S (setA D i (D a)) i).2 := by
        unfold xRow
        rw [ce_len, e2, hl2]
        apply List.map_congr_left
        intro k hk
        rw [List.mem_range] at hk
        rw [if_pos (by omega), List.getD_eq_getElem?_getD, show 0 + (k - 0) = k by omega, ce_get (by omega)]
        simp [slF, ha, hb, ro, rd, show ¬ a < 8 by omega, show ¬ i < 8 by omega, setA_eq]
      rw [e]
      have e3 : ceF S (setA D i (D a)) i = (tg i, (ceF S (setA D i (D a)) i).2) := rfl
      rw [e3, hb]
    · rw [List.getElem?_set_ne (fun z => hib z.symm), hp_get hi, hp_get hi]
      congr 1
      unfold ceF
      congr 1
      apply List.map_congr_left
      intro q _
      simp [slF, rd, setA_ne hib]
  · rw [List.getElem?_eq_none (by rw [List.length_set, hp_len]; omega), List.getElem?_eq_none (by rw [hp_len]; omega)]
theorem c53b (ha : tg a = 100) (hb : tg b = 100) (h8 : 8 ≤ a) (hb8 : 8 ≤ b) (hl : ln S a = n) (hl2 : ln S b = n) : wp 53 11 [l0, l1] [.inl (n : Int), .inl 0, .inr (.inl b), .inl 0, .inr (.inl a)] (hp S D) Q ↔ wp 53 14 [l0, l1] [] (hp S (setA D b (D a))) Q := by
  have a1 : a < 158 := tg_lt (by omega)
  have b1 : b < 158 := tg_lt (by omega)
  have hk : eCk (eO 53) 13 = some (5, 0) := by decide +kernel
  have hL : 1 ≤ eF 53 ∧ 26 ≤ eL 53 := by decide +kernel
  rw [← hp_cp (D := D) ha hb h8 hb8 hl hl2]
  refine wp_step dX6_copy_11 (fun f => ?_)
  simp only [exI, xCall, hk, if_true]
  rw [if_neg (by rintro ⟨q, _⟩; revert q; decide)]
  simp only [xCopy, hp_get a1, hp_get b1]
  rw [if_pos ⟨ha, hb, by omega, hb8, by decide, by decide, by omega, by rw [ce_len]; simp; omega, by rw [ce_len]; simp; omega, by decide, hL.1, hL.2⟩]
  rfl
theorem c53 (ha : tg a = 100) (hb : tg b = 100) (h8 : 8 ≤ a) (hb8 : 8 ≤ b) (hl : ln S a = ln S b) (hS : S.length ≤ 2048) : wp 53 0 [.inr (.inl a), .inr (.inl b)] [] (hp S D) Q ↔ Q none (hp S (setA D b (D a))) := by
  have h1 : ¬ ((ln S b : Nat) : Int) < (ln S b : Nat) := by omega
  have c := c53b (D := D) (Q := Q) (l0 := .inr (.inl a)) (l1 := .inr (.inl b)) ha hb h8 hb8 hl rfl
  simp (disch := first | assumption | omega | decide | exact b2i_01 _ | (unfold lx; omega)) only [s53_0, s53_1, s53_2, s53_3, s53_4, s53_5, s53_6, s53_7, s53_8, s53_14, kont_some, kont_none, w32_of, if_true, if_false, tdv, tmd, setA_eq, up_setA, rd_hi, Int.reduceToNat, if_neg (show ¬ (1 : Int) = 0 by decide), c165, hl, if_neg h1, c]
end SPEC44
