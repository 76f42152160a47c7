/-! the check's own beacon: a boat, a tick -/
theorem tk1_ne {F : eRow} {k : Int} {j : Nat} (h1 : 0 ≤ k) (h2 : k ≤ 5) (h : j < 11 ∨ 40 < j) : tk1 F k j = F j := by
  have q := lx_b (p := 0) h1 h2 (by omega) (by omega)
  unfold tk1
  split
  · exact fu_ne (by omega)
  · rfl
theorem tkF_ne {j : Nat} (h : j < 11 ∨ 40 < j) (n : Nat) : ∀ (k : Int) (F : eRow), k = 6 - n → n ≤ 6 → tkF n k F j = F j := by
  induction n with
  | zero => exact fun _ _ _ _ => rfl
  | succ n ih => exact fun k F hk hn => (ih (k + 1) _ (by omega) (by omega)).trans (tk1_ne (by omega) (by omega) h)
theorem fl1_ne {F : eRow} {k : Int} {j : Nat} (h1 : 0 ≤ k) (h2 : k ≤ 5) (h3 : ¬ lowF F = -5) (h : j < 11 ∨ 43 < j) : fl1 F k j = F j := by
  have hb := (low_b (F := F)).resolve_left h3
  unfold fl1
  rw [fu_ne (by omega)]
  exact comF_ne h1 (by unfold lx; omega)
theorem flF_ne {j : Nat} (h : j < 11 ∨ 43 < j) (n : Nat) : ∀ (k : Int) (F : eRow) (m : Int), k = 6 - n → n ≤ 6 → (flF n k F m).1 j = F j := by
  induction n with
  | zero => exact fun _ _ _ _ _ => rfl
  | succ n ih =>
    intro k F m hk hn
    unfold flF
    split
    · next hc => exact (ih (k + 1) _ _ (by omega) (by omega)).trans (fl1_ne (by omega) (by omega) hc.2 h)
    · exact ih (k + 1) _ _ (by omega) (by omega)
theorem St_flF (n : Nat) : ∀ (k : Int) (F : eRow) (m : Int), k = 6 - n → n ≤ 6 → St F → 0 ≤ m → m ≤ 6 - n → St (flF n k F m).1 ∧ 0 ≤ (flF n k F m).2 ∧ (flF n k F m).2 ≤ 6 := by
  induction n with
  | zero => exact fun _ _ _ _ _ h h1 h2 => ⟨h, h1, by unfold flF; dsimp only; omega⟩
  | succ n ih =>
    intro k F m hk hn hs h1 h2
    unfold flF
    split
    · next hc => exact ih (k + 1) _ _ (by omega) (by omega) (St_fl1 hs (by omega) (by omega) hc.2) (by omega) (by omega)
    · exact ih (k + 1) _ _ (by omega) (by omega) hs h1 (by omega)
def Atb (F : eRow) (a : Int) : Prop := 50 ≤ a ∧ a ≤ 77 ∧ 0 ≤ F (a + 1).toNat ∧ F (a + 1).toNat ≤ 2 ∧ 1 ≤ F (a + 2).toNat ∧ F (a + 2).toNat ≤ 6
theorem stk_b {F : eRow} {i : Int} (h : St F) (h1 : 0 ≤ i) (h2 : i ≤ 2) : 0 ≤ F (41 + i).toNat ∧ F (41 + i).toNat ≤ 99 := by
  obtain ⟨a0, a1, a2, a3, a4, a5, a6, a7, a8, a9, a10, a11, a12, a13, a14, a15, a16, a17, a18, a19, a20, a21⟩ := h
  rcases (show i = 0 ∨ i = 1 ∨ i = 2 by omega) with e | e | e <;> rw [e]
  · exact a11
  · exact a12
  · exact a13
theorem St_lan1 {F : eRow} {a : Int} (h : St F) (ha : Atb F a) : St (lan1 F a) := by
  obtain ⟨b1, b2, b3, b4, b5, b6⟩ := ha
  have hb := stk_b h b3 b4
  unfold lan1
  refine St_stk h b3 b4 ?_
  split <;> omega
theorem St_48 {F : eRow} {v : Int} (h : St F) (hv : 0 ≤ v ∧ v ≤ 10000000) : St (fu F 48 v) := by
  obtain ⟨a0, a1, a2, a3, a4, a5, a6, a7, a8, a9, a10, a11, a12, a13, a14, a15, a16, a17, a18, a19, a20, a21⟩ := h
  have e : ∀ j, j ≠ 48 → fu F 48 v j = F j := fun j hj => fu_ne hj
  refine ⟨fun s g1 g2 => LmB_of (a0 s g1 g2) (fun j _ _ => e j (by omega)) g1 g2, ?_, ?_, ?_, ?_, ?_, ?_, ?_, ?_, ?_, ?_, ?_, ?_, ?_, ?_, ?_, ?_, ?_, ?_, ?_, ?_, ?_⟩
  · rw [e 0 (by omega)]; exact a1
  · rw [e 1 (by omega)]; exact a2
  · rw [e 2 (by omega)]; exact a3
  · rw [e 3 (by omega)]; exact a4
  · rw [e 4 (by omega)]; exact a5
  · rw [e 5 (by omega)]; exact a6
  · rw [e 6 (by omega)]; exact a7
  · rw [e 7 (by omega)]; exact a8
  · rw [e 8 (by omega), e 9 (by omega)]; exact a9
  · rw [e 10 (by omega)]; exact a10
  · rw [e 41 (by omega)]; exact a11
  · rw [e 42 (by omega)]; exact a12
  · rw [e 43 (by omega)]; exact a13
  · rw [e 44 (by omega)]; exact a14
  · rw [e 45 (by omega)]; exact a15
  · rw [e 46 (by omega)]; exact a16
  · rw [e 47 (by omega)]; exact a17
  · rw [fu_eq]; exact hv
  · rw [e 49 (by omega)]; exact a19
  · rw [e 80 (by omega)]; exact a20
  · rw [e 49 (by omega)]
    exact fun k g1 g2 => Bt_of (a21 k g1 g2) (fun j h3 h4 => e j (by omega)) g1 (by omega)
theorem lan2_ne {F : eRow} {j : Nat} (h : j < 11 ∨ 43 < j) : (lan2 F).1 j = F j := by
  unfold lan2
  rw [flF_ne h 6 0 _ 0 (by omega) (by omega), tkF_ne (by omega) 6 0 _ (by omega) (by omega)]
theorem St_lan2 {F : eRow} (h : St F) : St (lan2 F).1 ∧ 0 ≤ (lan2 F).2 ∧ (lan2 F).2 ≤ 6 := St_flF 6 0 _ 0 (by omega) (by omega) (St_tkF 6 0 _ (by omega) (by omega) h) (by omega) (by omega)
theorem lan1_ne {F : eRow} {a : Int} {j : Nat} (ha : Atb F a) (h : j < 41 ∨ 43 < j) : lan1 F a j = F j := by
  obtain ⟨b1, b2, b3, b4, b5, b6⟩ := ha
  exact fu_ne (by omega)
theorem hapF_47e {F : eRow} {b : Int} : hapF F 4 b 47 = F 47 := by
  rw [hapF_47]
  simp
theorem St_lan {F : eRow} {a : Int} (h : St F) (ha : Atb F a) (h48 : F 48 + 1 ≤ 10000000) : St (lanF F a) := by
  have h1 := St_lan1 h ha
  have h2 := St_lan2 h1
  have e48 : (lan2 (lan1 F a)).1 48 = F 48 := by rw [lan2_ne (by omega), lan1_ne ha (by omega)]
  have b48 : 0 ≤ F 48 := h.2.2.2.2.2.2.2.2.2.2.2.2.2.2.2.2.2.2.1.1
  have h3 := St_48 (v := (lan2 (lan1 F a)).1 48 + 1) h2.1 (by omega)
  have h3' := h3
  obtain ⟨a0, a1, a2, a3, a4, a5, a6, a7, a8, a9, a10, a11, a12, a13, a14, a15, a16, a17, a18, a19, a20, a21⟩ := h3'
  unfold lanF
  exact St_ev h3 (fun j hj => hapF_lo a20.1 hj) (by rw [hapF_47e]; exact a17) (hapF_80b a20.1 a20.2)
theorem lan_ne {F : eRow} {a : Int} {j : Nat} (hs : St F) (ha : Atb F a) (h : j < 11 ∨ (43 < j ∧ j < 48) ∨ (48 < j ∧ j < 80)) : lanF F a j = F j := by
  have h1 := St_lan1 hs ha
  have h2 := (St_lan2 h1).1
  have b80 : 0 ≤ (lan2 (lan1 F a)).1 80 := h2.2.2.2.2.2.2.2.2.2.2.2.2.2.2.2.2.2.2.2.2.1.1
  have b80' : 0 ≤ fu (lan2 (lan1 F a)).1 48 ((lan2 (lan1 F a)).1 48 + 1) 80 := by rw [fu_ne (by decide)]; exact b80
  unfold lanF
  by_cases hj : j = 47
  · subst hj
    rw [hapF_47e, fu_ne (by decide), lan2_ne (by omega), lan1_ne ha (by omega)]
  · rw [hapF_lo b80' (by omega), fu_ne (by omega), lan2_ne (by omega), lan1_ne ha (by omega)]
theorem lan_48 {F : eRow} {a : Int} (hs : St F) (ha : Atb F a) : lanF F a 48 = F 48 + 1 := by
  have h1 := St_lan1 hs ha
  have h2 := (St_lan2 h1).1
  have b80 : 0 ≤ (lan2 (lan1 F a)).1 80 := h2.2.2.2.2.2.2.2.2.2.2.2.2.2.2.2.2.2.2.2.2.1.1
  have b80' : 0 ≤ fu (lan2 (lan1 F a)).1 48 ((lan2 (lan1 F a)).1 48 + 1) 80 := by rw [fu_ne (by decide)]; exact b80
  unfold lanF
  rw [hapF_lo b80' (by omega), fu_eq, lan2_ne (by omega), lan1_ne ha (by omega)]
section SPEC28
variable {S : List Int} {D : eD} {h : eH} {Q : Option eV → eH → Prop} {r : Nat} {s p v x fr a : Int} {F : eRow}
end SPEC28
