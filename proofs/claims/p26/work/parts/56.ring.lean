/-! the ring of states: 70 the History (1 states, 2 oldest), 71 the ring, 72, 92, 112, 132 its Beacons -/
def rgC (i : Int) : Nat := 72 + 20 * (i % 4).toNat
theorem rg_tg {i : Int} : tg (rgC i) = 0 ∧ 72 ≤ rgC i ∧ rgC i ≤ 132 := by
  unfold rgC
  rcases (show i % 4 = 0 ∨ i % 4 = 1 ∨ i % 4 = 2 ∨ i % 4 = 3 by omega) with e | e | e | e <;> rw [e] <;> exact ⟨rfl, by decide, by decide⟩
section SPEC56
variable {S : List Int} {D E : eD} {h : eH} {Q : Option eV → eH → Prop}
theorem c22 (hS : S.length ≤ 2048) (h1 : 0 ≤ D 70 1 ∧ D 70 1 ≤ 4) (h2 : 0 ≤ D 70 2 ∧ D 70 2 ≤ 3) : wp 22 0 [.inr (.inl 70), .inr (.inl 0)] [] (hp S D) Q ↔ Q (some (.inr (.inl (rgC (D 70 2 + D 70 1))))) (hp S D) := by
  have t1 : tg 70 = 2 := rfl
  have t2 : tg 71 = 103 := rfl
  have l2 : ln S 71 = 4 := rfl
  have q0 : ¬ (D 70 2 + D 70 1) % 4 < 0 := by omega
  have q1 : (D 70 2 + D 70 1) % 4 < ((4 : Nat) : Int) := by omega
  have e : 71 + (1 + 20 * ((D 70 2 + D 70 1) % 4).toNat) = rgC (D 70 2 + D 70 1) := by unfold rgC; omega
  have e0 : rgC (D 70 2 + D 70 1) ≠ 0 := by have := @rg_tg (D 70 2 + D 70 1); omega
  simp (disch := first | assumption | omega | decide | exact b2i_01 _ | (unfold lx; omega)) only [s22_0, s22_1, s22_4, s22_5, s22_8, s22_9, s22_10, s22_13, s22_14, s22_15, s22_18, s22_19, s22_20, s22_23, s22_24, s22_27, s22_28, s22_31, s22_32, s22_33, s22_37, kont_some, kont_none, w32_of, if_true, if_false, tdv, tmd, setA_eq, up_setA, rd_hi, Int.reduceToNat, if_neg (show ¬ (1 : Int) = 0 by decide), Nat.reduceAdd, c163, if_neg q0, l2, if_pos q1, e]
end SPEC56
