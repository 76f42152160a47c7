/-! the small methods: arguments, rows of numbers -/
def b2i (c : Prop) [Decidable c] : Int := if c then 1 else 0
theorem b2i_eq0 {c : Prop} [Decidable c] : b2i c = 0 ↔ ¬ c := by
  unfold b2i; by_cases h : c <;> simp [h]
theorem b2i_eq1 {c : Prop} [Decidable c] : b2i c = 1 ↔ c := by
  unfold b2i; by_cases h : c <;> simp [h]
theorem b2i_01 (c : Prop) [Decidable c] : b2i c = 0 ∨ b2i c = 1 := by
  unfold b2i; by_cases h : c <;> simp [h]
theorem b2i_t {c : Prop} [Decidable c] (h : c) : b2i c = 1 := if_pos h
theorem b2i_f {c : Prop} [Decidable c] (h : ¬ c) : b2i c = 0 := if_neg h
theorem b2i_congr {c c' : Prop} [Decidable c] [Decidable c'] (h : c ↔ c') : b2i c = b2i c' := by
  unfold b2i
  by_cases hc : c
  · rw [if_pos hc, if_pos (h.mp hc)]
  · rw [if_neg hc, if_neg (fun q => hc (h.mpr q))]
theorem up_eq {D : eD} {k j : Nat} {v : Int} : up D k j v k j = v := by simp [up]
theorem up_ne2 {D : eD} {k j k' j' : Nat} {v : Int} (h : j' ≠ j) : up D k j v k' j' = D k' j' := by simp [up, h]
theorem up_ne1 {D : eD} {k j k' j' : Nat} {v : Int} (h : k' ≠ k) : up D k j v k' j' = D k' j' := by simp [up, h]
theorem up_self {D : eD} {k j : Nat} : up D k j (D k j) = D := by
  funext a b
  unfold up
  split
  · next h => rw [h.1, h.2]
  · rfl
theorem tdv {a b : Int} (h : 0 ≤ a) : a.tdiv b = a / b := Int.tdiv_eq_ediv_of_nonneg h
theorem tmd {a b : Int} (h : 0 ≤ a) : a.tmod b = a % b := Int.tmod_eq_emod_of_nonneg h
theorem rd_hi {S : List Int} {D : eD} {k j : Nat} (h : 8 ≤ k) : rd S D k j = D k j := by simp [rd, Nat.not_lt.mpr h]
theorem tg_ne0 {k t : Nat} (h : tg k = t) (ht : t ≠ 999) : k ≠ 0 := by
  rintro rfl
  exact ht (h.symm.trans (by decide))
section SPEC20
variable {S : List Int} {D : eD} {h : eH} {Q : Option eV → eH → Prop} {k : Nat} {i v lo hi x : Int}
theorem c91 : wp 91 0 [.inl v, .inl lo, .inl hi] [] h Q ↔ Q (some (.inl (b2i (lo ≤ v ∧ v ≤ hi)))) h := by
  refine wp_iff ?_ Q
  simp (disch := first | assumption | omega | decide | exact b2i_01 _) only [s91_0, s91_1, s91_2, s91_5, s91_6, s91_7, s91_10, s91_11, s91_14, s91_15, kont_some, kont_none, w32_of, if_true, if_false, b2i_eq0, ite_not, up_eq, up_ne2, up_ne1, tdv, tmd]
  split
  · rw [b2i_f (by omega)]
    (first | done | trivial | exact ⟨rfl, trivial⟩ | exact ⟨rfl, rfl⟩ | exact ⟨trivial, trivial⟩ | rfl | (simp; done) | fail "stuck")
  · split
    · rw [b2i_f (by omega)]
      (first | done | trivial | exact ⟨rfl, trivial⟩ | exact ⟨rfl, rfl⟩ | exact ⟨trivial, trivial⟩ | rfl | (simp; done) | fail "stuck")
    · rw [b2i_t (by omega)]
      (first | done | trivial | exact ⟨rfl, trivial⟩ | exact ⟨rfl, rfl⟩ | exact ⟨trivial, trivial⟩ | rfl | (simp; done) | fail "stuck")
theorem c92 (hS : S.length ≤ 2048) : wp 92 0 [.inl v] [] (hp S D) Q ↔ Q (some (.inl (b2i (0 ≤ v ∧ v ≤ 3)))) (hp S D) := by
  have h1 : ln S 1 = 4 := rfl
  simp (disch := first | assumption | omega | decide | exact b2i_01 _) only [s92_0, s92_1, s92_2, s92_5, s92_6, s92_7, s92_8, s92_11, kont_some, kont_none, w32_of, if_true, if_false, b2i_eq0, ite_not, up_eq, up_ne2, up_ne1, tdv, tmd, c91, h1]
  rfl
theorem c93 : wp 93 0 [.inl v] [] h Q ↔ Q (some (.inl (b2i (0 ≤ v ∧ v ≤ 47)))) h := by
  simp (disch := first | assumption | omega | decide | exact b2i_01 _) only [s93_0, s93_1, s93_2, s93_4, s93_7, kont_some, kont_none, w32_of, if_true, if_false, b2i_eq0, ite_not, up_eq, up_ne2, up_ne1, tdv, tmd, c91]
theorem c94 : wp 94 0 [.inl v] [] h Q ↔ Q (some (.inl (b2i (0 ≤ v ∧ v ≤ 5)))) h := by
  simp (disch := first | assumption | omega | decide | exact b2i_01 _) only [s94_0, s94_1, s94_2, s94_3, s94_6, kont_some, kont_none, w32_of, if_true, if_false, b2i_eq0, ite_not, up_eq, up_ne2, up_ne1, tdv, tmd, c91]
theorem c95 : wp 95 0 [.inl v] [] h Q ↔ Q (some (.inl (b2i (0 ≤ v ∧ v ≤ 2)))) h := by
  simp (disch := first | assumption | omega | decide | exact b2i_01 _) only [s95_0, s95_1, s95_2, s95_3, s95_6, kont_some, kont_none, w32_of, if_true, if_false, b2i_eq0, ite_not, up_eq, up_ne2, up_ne1, tdv, tmd, c91]
theorem c96 : wp 96 0 [.inl v] [] h Q ↔ Q (some (.inl (b2i (1 ≤ v ∧ v ≤ 6)))) h := by
  simp (disch := first | assumption | omega | decide | exact b2i_01 _) only [s96_0, s96_1, s96_2, s96_4, s96_7, kont_some, kont_none, w32_of, if_true, if_false, b2i_eq0, ite_not, up_eq, up_ne2, up_ne1, tdv, tmd, c91]
theorem c97 (hv : v = 0 ∨ v = 1) : wp 97 0 [.inl v] [] h Q ↔ Q (some (.inl v)) h := by
  rcases hv with rfl | rfl <;> simp (disch := first | assumption | omega | decide | exact b2i_01 _) only [s97_0, s97_1, s97_4, s97_5, s97_8, s97_9, kont_some, kont_none, w32_of, if_true, if_false, b2i_eq0, ite_not, up_eq, up_ne2, up_ne1, tdv, tmd] <;> rfl
/-- Rows.at -/
def rat (S : List Int) (D : eD) (k : Nat) (i : Int) : Int := if 0 ≤ i ∧ i < ln S k then rd S D k i.toNat else 0
theorem c51 (hk : tg k = 100) (hS : S.length ≤ 2048) : wp 51 0 [.inr (.inl k), .inl i] [] (hp S D) Q ↔ Q (some (.inl (rat S D k i))) (hp S D) := by
  have h0 := tg_ne0 hk (by decide)
  refine wp_iff ?_ Q
  unfold rat
  by_cases h1 : i < 0
  · rw [if_neg (by omega)]
    simp (disch := first | assumption | omega | decide | exact b2i_01 _) only [s51_0, s51_1, s51_4, s51_5, s51_6, s51_7, s51_10, s51_11, s51_12, s51_13, s51_16, s51_17, kont_some, kont_none, w32_of, if_true, if_false, b2i_eq0, ite_not, up_eq, up_ne2, up_ne1, tdv, tmd, h1]
    (first | done | trivial | exact ⟨rfl, trivial⟩ | exact ⟨rfl, rfl⟩ | exact ⟨trivial, trivial⟩ | rfl | (simp; done) | fail "stuck")
  · by_cases h2 : i < ln S k
    · rw [if_pos (by omega)]
      simp (disch := first | assumption | omega | decide | exact b2i_01 _) only [s51_0, s51_1, s51_4, s51_5, s51_6, s51_7, s51_10, s51_11, s51_12, s51_13, s51_16, s51_17, kont_some, kont_none, w32_of, if_true, if_false, b2i_eq0, ite_not, up_eq, up_ne2, up_ne1, tdv, tmd, h1, h2]
      (first | done | trivial | exact ⟨rfl, trivial⟩ | exact ⟨rfl, rfl⟩ | exact ⟨trivial, trivial⟩ | rfl | (simp; done) | fail "stuck")
    · rw [if_neg (by omega)]
      simp (disch := first | assumption | omega | decide | exact b2i_01 _) only [s51_0, s51_1, s51_4, s51_5, s51_6, s51_7, s51_10, s51_11, s51_12, s51_13, s51_16, s51_17, kont_some, kont_none, w32_of, if_true, if_false, b2i_eq0, ite_not, up_eq, up_ne2, up_ne1, tdv, tmd, h1, h2]
      (first | done | trivial | exact ⟨rfl, trivial⟩ | exact ⟨rfl, rfl⟩ | exact ⟨trivial, trivial⟩ | rfl | (simp; done) | fail "stuck")
/-- Rows.write -/
def rwr (S : List Int) (D : eD) (k : Nat) (i v : Int) : eD := if 0 ≤ i ∧ i < ln S k then up D k i.toNat v else D
theorem c52 (hk : tg k = 100) (h8 : 8 ≤ k) (hS : S.length ≤ 2048) : wp 52 0 [.inr (.inl k), .inl i, .inl v] [] (hp S D) Q ↔ Q none (hp S (rwr S D k i v)) := by
  have h0 := tg_ne0 hk (by decide)
  refine wp_iff ?_ Q
  unfold rwr
  by_cases h1 : i < 0
  · rw [if_neg (by omega)]
    simp (disch := first | assumption | omega | decide | exact b2i_01 _) only [s52_0, s52_1, s52_4, s52_5, s52_6, s52_7, s52_10, s52_11, s52_12, s52_13, s52_14, kont_some, kont_none, w32_of, if_true, if_false, b2i_eq0, ite_not, up_eq, up_ne2, up_ne1, tdv, tmd, h1]
    (first | done | trivial | exact ⟨rfl, trivial⟩ | exact ⟨rfl, rfl⟩ | exact ⟨trivial, trivial⟩ | rfl | (simp; done) | fail "stuck")
  · by_cases h2 : i < ln S k
    · rw [if_pos (by omega)]
      simp (disch := first | assumption | omega | decide | exact b2i_01 _) only [s52_0, s52_1, s52_4, s52_5, s52_6, s52_7, s52_10, s52_11, s52_12, s52_13, s52_14, kont_some, kont_none, w32_of, if_true, if_false, b2i_eq0, ite_not, up_eq, up_ne2, up_ne1, tdv, tmd, h1, h2]
      (first | done | trivial | exact ⟨rfl, trivial⟩ | exact ⟨rfl, rfl⟩ | exact ⟨trivial, trivial⟩ | rfl | (simp; done) | fail "stuck")
    · rw [if_neg (by omega)]
      simp (disch := first | assumption | omega | decide | exact b2i_01 _) only [s52_0, s52_1, s52_4, s52_5, s52_6, s52_7, s52_10, s52_11, s52_12, s52_13, s52_14, kont_some, kont_none, w32_of, if_true, if_false, b2i_eq0, ite_not, up_eq, up_ne2, up_ne1, tdv, tmd, h1, h2]
      (first | done | trivial | exact ⟨rfl, trivial⟩ | exact ⟨rfl, rfl⟩ | exact ⟨trivial, trivial⟩ | rfl | (simp; done) | fail "stuck")
/-- Math -/
theorem c165 : wp 100 0 [.inl v, .inl x] [] h Q ↔ Q (some (.inl (if x < v then x else v))) h := by
  refine wp_iff ?_ Q
  by_cases h1 : x < v <;> simp (disch := first | assumption | omega | decide | exact b2i_01 _) only [s100_0, s100_1, s100_2, s100_5, s100_6, s100_9, s100_10, kont_some, kont_none, w32_of, if_true, if_false, b2i_eq0, ite_not, up_eq, up_ne2, up_ne1, tdv, tmd, h1] <;> (first | done | trivial | exact ⟨rfl, trivial⟩ | exact ⟨rfl, rfl⟩ | exact ⟨trivial, trivial⟩ | rfl | (simp; done) | fail "stuck")
theorem c164 : wp 99 0 [.inl v, .inl x] [] h Q ↔ Q (some (.inl (if v < x then x else v))) h := by
  refine wp_iff ?_ Q
  by_cases h1 : v < x <;> simp (disch := first | assumption | omega | decide | exact b2i_01 _) only [s99_0, s99_1, s99_2, s99_5, s99_6, s99_9, s99_10, kont_some, kont_none, w32_of, if_true, if_false, b2i_eq0, ite_not, up_eq, up_ne2, up_ne1, tdv, tmd, h1] <;> (first | done | trivial | exact ⟨rfl, trivial⟩ | exact ⟨rfl, rfl⟩ | exact ⟨trivial, trivial⟩ | rfl | (simp; done) | fail "stuck")
theorem e_xor {v x : Int} (hx : 0 < x) (hv : -2147483648 ≤ v ∧ v ≤ 2147483647) (hx2 : x ≤ 2147483647) : (Int32.ofInt v ^^^ Int32.ofInt x).toInt < 0 ↔ v < 0 := by
  have e1 : ((Int32.ofInt v ^^^ Int32.ofInt x).toBitVec).msb = ((Int32.ofInt v).toBitVec.msb ^^ (Int32.ofInt x).toBitVec.msb) := by
    rw [Int32.toBitVec_xor, BitVec.msb_xor]
  have e2 : ∀ z : Int32, z.toBitVec.msb = decide (z.toInt < 0) := fun z => BitVec.msb_eq_toInt
  rw [e2, e2, e2, show (Int32.ofInt v).toInt = v from w32_of hv.1 hv.2, show (Int32.ofInt x).toInt = x from w32_of (by omega) hx2] at e1
  rw [decide_eq_false (show ¬ x < 0 by omega), Bool.xor_false] at e1
  constructor
  · intro q
    have := e1.symm.trans (decide_eq_true q)
    exact of_decide_eq_true this
  · intro q
    have := e1.trans (decide_eq_true q)
    exact of_decide_eq_true this
theorem e_fmod {v x : Int} (hx : 0 < x) : (if v < 0 then (if v.tmod x = 0 then v.tmod x else v.tmod x + x) else v.tmod x) = v % x := by
  have h1 := tmod_bounds (a := v) hx
  have h2 : v.tmod x % x = v % x := by
    have e : v = v.tmod x + x * v.tdiv x := by
      first | exact (Int.tmod_add_mul_tdiv v x).symm | exact (Int.tmod_add_tdiv v x).symm | (have := Int.mul_tdiv_add_tmod v x; omega)
    have e2 : (v.tmod x + x * v.tdiv x) % x = v.tmod x % x := Int.add_mul_emod_self_left _ _ _
    rw [← e] at e2
    exact e2.symm
  split
  · next hv =>
    have h3 : v.tmod x ≤ 0 := by
      have : (-v).tmod x = -(v.tmod x) := by first | rw [Int.neg_tmod] | simp [Int.neg_tmod]
      have h4 : 0 ≤ (-v).tmod x := by
        rw [Int.tmod_eq_emod_of_nonneg (by omega)]
        exact Int.emod_nonneg _ (by omega)
      omega
    split
    · next h0 => rw [h0] at h2 ⊢; rw [← h2]; simp
    · next h0 =>
      rw [← h2]
      have : (v.tmod x + x) % x = v.tmod x % x := by simp
      rw [← this]
      exact (Int.emod_eq_of_lt (by omega) (by omega)).symm
  · next hv => exact Int.tmod_eq_emod_of_nonneg (by omega)
theorem c163 (hx : 0 < x) (hv : -2147483648 ≤ v ∧ v ≤ 2147483647) (hx2 : x ≤ 1000000) : wp 98 0 [.inl v, .inl x, .inr (.inl 0)] [] h Q ↔ Q (some (.inl (v % x))) h := by
  refine wp_iff ?_ Q
  have h1 := tmod_bounds (a := v) hx
  have h2 := e_xor hx hv (by omega)
  rw [← e_fmod hx]
  by_cases h3 : v < 0
  · rw [if_pos h3]
    by_cases h4 : v.tmod x = 0
    · rw [if_pos h4]
      simp (disch := first | assumption | omega | decide | exact b2i_01 _) only [s98_0, s98_1, s98_2, s98_3, s98_4, s98_5, s98_6, s98_7, s98_10, s98_11, s98_14, s98_15, s98_16, s98_17, s98_18, s98_19, kont_some, kont_none, w32_of, if_true, if_false, b2i_eq0, ite_not, up_eq, up_ne2, up_ne1, tdv, tmd, h2, h3, h4]
      (first | done | trivial | exact ⟨rfl, trivial⟩ | exact ⟨rfl, rfl⟩ | exact ⟨trivial, trivial⟩ | rfl | (simp; done) | fail "stuck")
    · rw [if_neg h4]
      simp (disch := first | assumption | omega | decide | exact b2i_01 _) only [s98_0, s98_1, s98_2, s98_3, s98_4, s98_5, s98_6, s98_7, s98_10, s98_11, s98_14, s98_15, s98_16, s98_17, s98_18, s98_19, kont_some, kont_none, w32_of, if_true, if_false, b2i_eq0, ite_not, up_eq, up_ne2, up_ne1, tdv, tmd, h2, h3, h4]
      (first | done | trivial | exact ⟨rfl, trivial⟩ | exact ⟨rfl, rfl⟩ | exact ⟨trivial, trivial⟩ | rfl | (simp; done) | fail "stuck")
  · rw [if_neg h3]
    have h6 := Int.emod_nonneg v (show x ≠ 0 by omega)
    have h7 := Int.emod_lt_of_pos v hx
    simp (disch := first | assumption | omega | decide | exact b2i_01 _) only [s98_0, s98_1, s98_2, s98_3, s98_4, s98_5, s98_6, s98_7, s98_10, s98_11, s98_14, s98_15, s98_16, s98_17, s98_18, s98_19, kont_some, kont_none, w32_of, if_true, if_false, b2i_eq0, ite_not, up_eq, up_ne2, up_ne1, tdv, tmd, h2, h3]
    (first | done | trivial | exact ⟨rfl, trivial⟩ | exact ⟨rfl, rfl⟩ | exact ⟨trivial, trivial⟩ | rfl | (simp; done) | fail "stuck")
/-! Lamp: 0 kind, 1 strength, 2 life, 3 wear, 4 ticksBelow, 5 tired -/
def by3 (k a b c : Int) : Int := if k = 0 then a else if k = 1 then b else c
theorem rat_by {j : Nat} {a b c : Int} (hj : eSv[j]? = some [a, b, c]) (hj2 : j < 6) (hk : 0 ≤ i ∧ i ≤ 2) : rat S D (j + 1) i = by3 i a b c := by
  have hl : ln S (j + 1) = 3 := by
    rcases (show j = 0 ∨ j = 1 ∨ j = 2 ∨ j = 3 ∨ j = 4 ∨ j = 5 by omega) with rfl | rfl | rfl | rfl | rfl | rfl <;> first | rfl | cases hj
  unfold rat
  rw [if_pos (by omega)]
  unfold rd stv
  rw [if_pos (by omega), if_neg (by omega), Nat.add_sub_cancel, List.getD_eq_getElem?_getD (l := eSv), hj]
  unfold by3
  rcases (show i = 0 ∨ i = 1 ∨ i = 2 by omega) with rfl | rfl | rfl <;> rfl
end SPEC20
