/-! a tick keeps the bounds; rows copied -/
theorem pas_all {F : eRow} {ab : Int} (hs : St F) (hc : Ct F) (h0b : F 0 ≤ 900000) : St (pasF F ab) ∧ Ct (pasF F ab) ∧ pasF F ab 0 = F 0 + 1 ∧ (∀ j, (0 < j ∧ j < 7) ∨ (48 < j ∧ j < 80) → pasF F ab j = F j) := by
  obtain ⟨d1, d2, d3, d4, d5⟩ := hc
  have s1 := St_pw1 hs
  have e47 : pw1 F 47 = F 47 := pw1_ne (by omega)
  have e0 : pw1 F 0 = F 0 := pw1_ne (by omega)
  obtain ⟨s2, m1, m2⟩ := St_pl2 s1 (by omega)
  have n2 : ∀ j, j < 8 ∨ (40 < j ∧ j < 47) ∨ (47 < j ∧ j < 80) → pl2 (pw1 F) j = pw1 F j := fun j hj => pl2_ne s1 (by omega) hj
  have e44 : pl2 (pw1 F) 44 = F 44 := (n2 44 (by omega)).trans (pw1_ne (by omega))
  have e45 : pl2 (pw1 F) 45 = F 45 := (n2 45 (by omega)).trans (pw1_ne (by omega))
  have e46 : pl2 (pw1 F) 46 = F 46 := (n2 46 (by omega)).trans (pw1_ne (by omega))
  have e48 : pl2 (pw1 F) 48 = F 48 := (n2 48 (by omega)).trans (pw1_ne (by omega))
  have e49 : pl2 (pw1 F) 49 = F 49 := (n2 49 (by omega)).trans (pw1_ne (by omega))
  have s3 := St_pc1 (d := pdk (pw1 F)) (n := nigF (pw1 F)) s2 (by omega) (by omega)
  have f47 : pc1 (pl2 (pw1 F)) (pdk (pw1 F)) (nigF (pw1 F)) 47 = pl2 (pw1 F) 47 := pc1_ne (by omega)
  have f48 : pc1 (pl2 (pw1 F)) (pdk (pw1 F)) (nigF (pw1 F)) 48 = F 48 := (pc1_ne (by omega)).trans e48
  have f49 : pc1 (pl2 (pw1 F)) (pdk (pw1 F)) (nigF (pw1 F)) 49 = F 49 := (pc1_ne (by omega)).trans e49
  have fj : ∀ j, (j < 7) ∨ (48 < j ∧ j < 80) → pc1 (pl2 (pw1 F)) (pdk (pw1 F)) (nigF (pw1 F)) j = F j := fun j hj => (pc1_ne (by omega)).trans ((n2 j (by omega)).trans (pw1_ne (by omega)))
  have hb := b2i_b (c := pdk (pw1 F))
  have g44 : pc1 (pl2 (pw1 F)) (pdk (pw1 F)) (nigF (pw1 F)) 44 ≤ F 0 + 1 := by
    unfold pc1; rw [fu_ne (by decide), fu_ne (by decide), fu_eq]; omega
  have g45 : pc1 (pl2 (pw1 F)) (pdk (pw1 F)) (nigF (pw1 F)) 45 ≤ F 0 + 1 := by
    have b0 : 0 ≤ F 0 := hs.2.1.1
    unfold pc1; rw [fu_ne (by decide), fu_eq]
    split <;> (try split) <;> omega
  have g46 : pc1 (pl2 (pw1 F)) (pdk (pw1 F)) (nigF (pw1 F)) 46 ≤ F 0 + 1 := by
    have b0 : 0 ≤ F 0 := hs.2.1.1
    unfold pc1; rw [fu_eq]
    split <;> (try split) <;> (try split) <;> omega
  have b49 : 0 ≤ F 49 ∧ F 49 ≤ 10 := hs.2.2.2.2.2.2.2.2.2.2.2.2.2.2.2.2.2.2.2.1
  have b0 : 0 ≤ F 0 := hs.2.1.1
  have key : ∀ K : eRow, St K → (∀ j, j < 11 ∨ (43 < j ∧ j < 48) ∨ (48 < j ∧ j < 80) → K j = pc1 (pl2 (pw1 F)) (pdk (pw1 F)) (nigF (pw1 F)) j) → K 48 ≤ F 48 + 10 → St (fu K 0 (F 0 + 1)) ∧ Ct (fu K 0 (F 0 + 1)) ∧ fu K 0 (F 0 + 1) 0 = F 0 + 1 ∧ (∀ j, (0 < j ∧ j < 7) ∨ (48 < j ∧ j < 80) → fu K 0 (F 0 + 1) j = F j) := by
    intro K hK hj h48
    refine ⟨St_0 hK (by omega), ?_, fu_eq, fun j h => ?_⟩
    · unfold Ct
      rw [fu_eq, fu_ne (by decide), fu_ne (by decide), fu_ne (by decide), fu_ne (by decide), fu_ne (by decide), hj 44 (by omega), hj 45 (by omega), hj 46 (by omega), hj 47 (by omega)]
      exact ⟨by omega, by omega, by omega, by omega, by omega⟩
    · rw [fu_ne (by omega), hj j (by omega), fj j (by omega)]
  unfold pasF
  dsimp only
  split
  · exact key _ s3 (fun _ _ => rfl) (by omega)
  · have hp2 := pb_all (F 49).toNat 0 (pc1 (pl2 (pw1 F)) (pdk (pw1 F)) (nigF (pw1 F))) (by omega) (by rw [f49]; omega) s3 (by omega)
    exact key _ hp2.1 hp2.2.1 (by omega)
/-- n numbers of F from a on, laid into G from b on -/
def cpA (G F : eRow) (b a n : Nat) : eRow := fun j => if b ≤ j ∧ j < b + n then F (a + (j - b)) else G j
def cpI (F : eRow) (b a : Nat) : Nat → Nat → eRow → eRow
  | 0, _, G => G
  | n + 1, k, G => cpI F b a n (k + 1) (fu G (b + k) (F (a + k)))
theorem cpI_eq {F : eRow} {b a : Nat} (n : Nat) : ∀ (k : Nat) (G : eRow), cpI F b a n k G = cpA G F (b + k) (a + k) n := by
  induction n with
  | zero =>
    intro k G
    funext j
    unfold cpA cpI
    rw [if_neg (by omega)]
  | succ n ih =>
    intro k G
    unfold cpI
    rw [ih]
    funext j
    unfold cpA
    by_cases h1 : j = b + k
    · subst h1
      rw [if_neg (by omega), fu_eq, if_pos (by omega)]
      congr 1; omega
    · rw [fu_ne h1]
      by_cases h2 : b + (k + 1) ≤ j ∧ j < b + (k + 1) + n
      · rw [if_pos h2, if_pos (by omega)]
        congr 1; omega
      · rw [if_neg h2, if_neg (by omega)]
section SPEC31
variable {S : List Int} {D : eD} {h : eH} {Q : Option eV → eH → Prop} {a b : Nat} {v x : Int} {F G : eRow}
end SPEC31
