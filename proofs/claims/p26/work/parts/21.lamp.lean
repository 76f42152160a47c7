/-! Lamp: 0 kind, 1 strength, 2 life, 3 wear, 4 ticksBelow, 5 tired -/
def lifeF (kind str : Int) : Int := by3 kind 400 700 200 * str / 100
def curF (nom life wear : Int) : Int := if life ≤ wear then 0 else nom - nom * wear / (4 * life)
/-- a lamp that is there, by its numbers -/
def LmpP (kind str life wear below tired : Int) : Prop := 0 ≤ kind ∧ kind ≤ 2 ∧ 50 ≤ str ∧ str ≤ 150 ∧ life = lifeF kind str ∧ 0 ≤ wear ∧ wear ≤ life + 15 ∧ 0 ≤ below ∧ below ≤ wear ∧ (tired = 0 ∨ tired = 1)
def Lmp (D : eD) (k : Nat) : Prop := LmpP (D k 0) (D k 1) (D k 2) (D k 3) (D k 4) (D k 5)
theorem by3_cases {k a b c : Int} : by3 k a b c = a ∨ by3 k a b c = b ∨ by3 k a b c = c := by
  unfold by3
  split
  · exact Or.inl rfl
  · split
    · exact Or.inr (Or.inl rfl)
    · exact Or.inr (Or.inr rfl)
theorem lifeF_b {kind str : Int} (h1 : 50 ≤ str) (h2 : str ≤ 150) : 100 ≤ lifeF kind str ∧ lifeF kind str ≤ 1050 := by
  unfold lifeF
  rcases @by3_cases kind 400 700 200 with e | e | e <;> rw [e] <;> omega
theorem Lmp.bounds {D : eD} {k : Nat} (h : Lmp D k) : 100 ≤ D k 2 ∧ D k 2 ≤ 1050 ∧ 0 ≤ D k 3 ∧ D k 3 ≤ 1065 ∧ 0 ≤ D k 4 ∧ D k 4 ≤ 1065 := by
  obtain ⟨h1, h2, h3, h4, h5, h6, h7, h8, h9, h10⟩ := h
  have := lifeF_b (kind := D k 0) h3 h4
  omega
section SPEC21
variable {S : List Int} {D : eD} {h : eH} {Q : Option eV → eH → Prop} {k o : Nat} {i v lo hi x : Int}
def mkL (D : eD) (k : Nat) (kind str : Int) : eD := up (up (up (up (up (up D k 0 kind) k 1 str) k 2 (lifeF kind str)) k 3 0) k 4 0) k 5 0
theorem c24 (hk : tg k = 3) (hS : S.length ≤ 2048) (h1 : 0 ≤ i) (h2 : i ≤ 2) (h3 : 50 ≤ v) (h4 : v ≤ 150) : wp 24 0 [.inr (.inl k), .inl i, .inl v] [] (hp S D) Q ↔ Q none (hp S (mkL D k i v)) := by
  have h0 := tg_ne0 hk (by decide)
  have t2 : tg 2 = 100 := rfl
  have hr : ∀ D : eD, rat S D 2 i = by3 i 400 700 200 := fun D => rat_by (j := 1) rfl (by omega) ⟨h1, h2⟩
  refine wp_iff ?_ Q
  unfold mkL lifeF
  rcases @by3_cases i 400 700 200 with e | e | e <;> (simp (disch := first | assumption | omega | decide | exact b2i_01 _) only [s24_0, s24_1, s24_2, s24_5, s24_6, s24_7, s24_10, s24_11, s24_14, s24_15, s24_18, s24_19, s24_20, s24_22, s24_23, s24_26, s24_27, s24_28, s24_31, s24_32, s24_33, s24_36, s24_37, s24_38, s24_41, kont_some, kont_none, w32_of, if_true, if_false, b2i_eq0, ite_not, up_eq, up_ne2, up_ne1, tdv, tmd, c51, hr, e]; (first | done | trivial | exact ⟨rfl, trivial⟩ | exact ⟨rfl, rfl⟩ | exact ⟨trivial, trivial⟩ | rfl | (simp; done) | fail "stuck"))
theorem c25 (hk : tg k = 3) : wp 25 0 [.inr (.inl k)] [] (hp S D) Q ↔ Q none (hp S (up D k 0 (-1))) := by
  have h0 := tg_ne0 hk (by decide)
  simp (disch := first | assumption | omega | decide | exact b2i_01 _) only [s25_0, s25_1, s25_2, s25_5, kont_some, kont_none, w32_of, if_true, if_false, b2i_eq0, ite_not, up_eq, up_ne2, up_ne1, tdv, tmd]
def cpL (D : eD) (k o : Nat) : eD := up (up (up (up (up (up D k 0 (D o 0)) k 1 (D o 1)) k 2 (D o 2)) k 3 (D o 3)) k 4 (D o 4)) k 5 (D o 5)
theorem c26 (hk : tg k = 3) (ho : tg o = 3) (hne : o ≠ k) (ht : D o 5 = 0 ∨ D o 5 = 1) : wp 26 0 [.inr (.inl k), .inr (.inl o)] [] (hp S D) Q ↔ Q none (hp S (cpL D k o)) := by
  have h0 := tg_ne0 hk (by decide)
  have h1 := tg_ne0 ho (by decide)
  simp (disch := first | assumption | omega | decide | exact b2i_01 _) only [s26_0, s26_1, s26_2, s26_5, s26_8, s26_9, s26_10, s26_13, s26_16, s26_17, s26_18, s26_21, s26_24, s26_25, s26_26, s26_29, s26_32, s26_33, s26_34, s26_37, s26_40, s26_41, s26_42, s26_45, s26_48, kont_some, kont_none, w32_of, if_true, if_false, b2i_eq0, ite_not, up_eq, up_ne2, up_ne1, tdv, tmd]
  rfl
theorem c27 (hk : tg k = 3) : wp 27 0 [.inr (.inl k)] [] (hp S D) Q ↔ Q (some (.inl (b2i (¬ D k 0 = -1)))) (hp S D) := by
  have h0 := tg_ne0 hk (by decide)
  refine wp_iff ?_ Q
  by_cases h1 : D k 0 = -1
  · rw [b2i_f (by omega)]; simp (disch := first | assumption | omega | decide | exact b2i_01 _) only [s27_0, s27_1, s27_4, s27_5, s27_8, s27_9, s27_12, s27_13, kont_some, kont_none, w32_of, if_true, if_false, b2i_eq0, ite_not, up_eq, up_ne2, up_ne1, tdv, tmd, h1]; (first | done | trivial | exact ⟨rfl, trivial⟩ | exact ⟨rfl, rfl⟩ | exact ⟨trivial, trivial⟩ | rfl | (simp; done) | fail "stuck")
  · rw [b2i_t (by omega)]; simp (disch := first | assumption | omega | decide | exact b2i_01 _) only [s27_0, s27_1, s27_4, s27_5, s27_8, s27_9, s27_12, s27_13, kont_some, kont_none, w32_of, if_true, if_false, b2i_eq0, ite_not, up_eq, up_ne2, up_ne1, tdv, tmd, h1]; (first | done | trivial | exact ⟨rfl, trivial⟩ | exact ⟨rfl, rfl⟩ | exact ⟨trivial, trivial⟩ | rfl | (simp; done) | fail "stuck")
theorem c28 (hk : tg k = 3) : wp 28 0 [.inr (.inl k)] [] (hp S D) Q ↔ Q (some (.inl (b2i (D k 2 ≤ D k 3)))) (hp S D) := by
  have h0 := tg_ne0 hk (by decide)
  refine wp_iff ?_ Q
  by_cases h1 : D k 3 < D k 2
  · rw [b2i_f (by omega)]; simp (disch := first | assumption | omega | decide | exact b2i_01 _) only [s28_0, s28_1, s28_4, s28_5, s28_8, s28_11, s28_12, s28_15, s28_16, kont_some, kont_none, w32_of, if_true, if_false, b2i_eq0, ite_not, up_eq, up_ne2, up_ne1, tdv, tmd, h1]; (first | done | trivial | exact ⟨rfl, trivial⟩ | exact ⟨rfl, rfl⟩ | exact ⟨trivial, trivial⟩ | rfl | (simp; done) | fail "stuck")
  · rw [b2i_t (by omega)]; simp (disch := first | assumption | omega | decide | exact b2i_01 _) only [s28_0, s28_1, s28_4, s28_5, s28_8, s28_11, s28_12, s28_15, s28_16, kont_some, kont_none, w32_of, if_true, if_false, b2i_eq0, ite_not, up_eq, up_ne2, up_ne1, tdv, tmd, h1]; (first | done | trivial | exact ⟨rfl, trivial⟩ | exact ⟨rfl, rfl⟩ | exact ⟨trivial, trivial⟩ | rfl | (simp; done) | fail "stuck")
/-- isUsable -/
def usb (D : eD) (k : Nat) : Prop := ¬ D k 0 = -1 ∧ D k 3 < D k 2
theorem c29 (hk : tg k = 3) : wp 29 0 [.inr (.inl k)] [] (hp S D) Q ↔ Q (some (.inl (b2i (¬ D k 0 = -1 ∧ D k 3 < D k 2)))) (hp S D) := by
  have h0 := tg_ne0 hk (by decide)
  refine wp_iff ?_ Q
  by_cases h1 : D k 0 = -1
  · rw [b2i_f (by omega)]; simp (disch := first | assumption | omega | decide | exact b2i_01 _) only [s29_0, s29_1, s29_4, s29_7, s29_8, s29_11, s29_14, s29_15, s29_18, s29_19, kont_some, kont_none, w32_of, if_true, if_false, b2i_eq0, ite_not, up_eq, up_ne2, up_ne1, tdv, tmd, c27, c28, h1, not_true_eq_false]; (first | done | trivial | exact ⟨rfl, trivial⟩ | exact ⟨rfl, rfl⟩ | exact ⟨trivial, trivial⟩ | rfl | (simp; done) | fail "stuck")
  · by_cases h2 : D k 2 ≤ D k 3
    · rw [b2i_f (by omega)]; simp (disch := first | assumption | omega | decide | exact b2i_01 _) only [s29_0, s29_1, s29_4, s29_7, s29_8, s29_11, s29_14, s29_15, s29_18, s29_19, kont_some, kont_none, w32_of, if_true, if_false, b2i_eq0, ite_not, up_eq, up_ne2, up_ne1, tdv, tmd, c27, c28, h1, h2, not_true_eq_false, not_false_eq_true]; (first | done | trivial | exact ⟨rfl, trivial⟩ | exact ⟨rfl, rfl⟩ | exact ⟨trivial, trivial⟩ | rfl | (simp; done) | fail "stuck")
    · rw [b2i_t (by omega)]; simp (disch := first | assumption | omega | decide | exact b2i_01 _) only [s29_0, s29_1, s29_4, s29_7, s29_8, s29_11, s29_14, s29_15, s29_18, s29_19, kont_some, kont_none, w32_of, if_true, if_false, b2i_eq0, ite_not, up_eq, up_ne2, up_ne1, tdv, tmd, c27, c28, h1, h2, not_true_eq_false, not_false_eq_true]; (first | done | trivial | exact ⟨rfl, trivial⟩ | exact ⟨rfl, rfl⟩ | exact ⟨trivial, trivial⟩ | rfl | (simp; done) | fail "stuck")
theorem c30 (hk : tg k = 3) : wp 30 0 [.inr (.inl k)] [] (hp S D) Q ↔ Q (some (.inl (b2i ((¬ D k 0 = -1 ∧ D k 3 < D k 2) ∧ D k 5 = 0)))) (hp S D) := by
  have h0 := tg_ne0 hk (by decide)
  refine wp_iff ?_ Q
  by_cases h1 : ¬ D k 0 = -1 ∧ D k 3 < D k 2
  · by_cases h2 : D k 5 = 0
    · rw [b2i_t ⟨h1, h2⟩]; simp (disch := first | assumption | omega | decide | exact b2i_01 _) only [s30_0, s30_1, s30_4, s30_7, s30_8, s30_11, s30_14, s30_15, s30_18, s30_19, kont_some, kont_none, w32_of, if_true, if_false, b2i_eq0, ite_not, up_eq, up_ne2, up_ne1, tdv, tmd, c29, h1, h2, not_true_eq_false, not_false_eq_true, and_self, b2i_t (And.intro (not_false_eq_true ▸ trivial : ¬ False) trivial)]; (first | done | trivial | exact ⟨rfl, trivial⟩ | exact ⟨rfl, rfl⟩ | exact ⟨trivial, trivial⟩ | rfl | (simp; done) | fail "stuck")
    · rw [b2i_f (fun q => h2 q.2)]; simp (disch := first | assumption | omega | decide | exact b2i_01 _) only [s30_0, s30_1, s30_4, s30_7, s30_8, s30_11, s30_14, s30_15, s30_18, s30_19, kont_some, kont_none, w32_of, if_true, if_false, b2i_eq0, ite_not, up_eq, up_ne2, up_ne1, tdv, tmd, c29, h1, h2, not_true_eq_false, not_false_eq_true, and_self]; (first | done | trivial | exact ⟨rfl, trivial⟩ | exact ⟨rfl, rfl⟩ | exact ⟨trivial, trivial⟩ | rfl | (simp; done) | fail "stuck")
  · rw [b2i_f (fun q => h1 q.1)]; simp (disch := first | assumption | omega | decide | exact b2i_01 _) only [s30_0, s30_1, s30_4, s30_7, s30_8, s30_11, s30_14, s30_15, s30_18, s30_19, kont_some, kont_none, w32_of, if_true, if_false, b2i_eq0, ite_not, up_eq, up_ne2, up_ne1, tdv, tmd, c29, h1, not_true_eq_false, not_false_eq_true]; (first | done | trivial | exact ⟨rfl, trivial⟩ | exact ⟨rfl, rfl⟩ | exact ⟨trivial, trivial⟩ | rfl | (simp; done) | fail "stuck")
theorem c31 (hk : tg k = 3) (h1 : -1000000 ≤ D k 2 ∧ D k 2 ≤ 1000000) (h2 : -1000000 ≤ D k 3 ∧ D k 3 ≤ 1000000) : wp 31 0 [.inr (.inl k)] [] (hp S D) Q ↔ Q (some (.inl (D k 2 - D k 3))) (hp S D) := by
  have h0 := tg_ne0 hk (by decide)
  simp (disch := first | assumption | omega | decide | exact b2i_01 _) only [s31_0, s31_1, s31_4, s31_5, s31_8, s31_9, kont_some, kont_none, w32_of, if_true, if_false, b2i_eq0, ite_not, up_eq, up_ne2, up_ne1, tdv, tmd]
theorem c32 (hk : tg k = 3) (hS : S.length ≤ 2048) (h1 : 0 ≤ D k 0) (h2 : D k 0 ≤ 2) (h3 : 1 ≤ D k 2) (h4 : D k 2 ≤ 2000) (h5 : 0 ≤ D k 3) (h6 : D k 3 ≤ 2000) : wp 32 0 [.inr (.inl k), .inr (.inl 0)] [] (hp S D) Q ↔ Q (some (.inl (curF (by3 (D k 0) 1000 1400 700) (D k 2) (D k 3)))) (hp S D) := by
  have h0 := tg_ne0 hk (by decide)
  have t2 : tg 3 = 100 := rfl
  have hr : rat S D 3 (D k 0) = by3 (D k 0) 1000 1400 700 := rat_by (j := 2) rfl (by omega) ⟨h1, h2⟩
  refine wp_iff ?_ Q
  unfold curF
  by_cases h7 : D k 2 ≤ D k 3
  · rw [if_pos h7]
    have h8 : 0 < D k 2 := by omega
    simp (disch := first | assumption | omega | decide | exact b2i_01 _) only [s32_0, s32_1, s32_4, s32_7, s32_8, s32_11, s32_14, s32_15, s32_16, s32_19, s32_20, s32_23, s32_26, s32_27, s32_28, s32_29, s32_30, s32_33, s32_34, s32_35, s32_36, s32_39, s32_40, s32_41, s32_42, kont_some, kont_none, w32_of, if_true, if_false, b2i_eq0, ite_not, up_eq, up_ne2, up_ne1, tdv, tmd, c28, h7, h8, not_true_eq_false]
    (first | done | trivial | exact ⟨rfl, trivial⟩ | exact ⟨rfl, rfl⟩ | exact ⟨trivial, trivial⟩ | rfl | (simp; done) | fail "stuck")
  · rw [if_neg h7]
    have h8 : 0 < D k 2 := by omega
    have h9 : D k 3 / 4 ≤ 1000000 := by omega
    rcases @by3_cases (D k 0) 1000 1400 700 with e | e | e
    · have hq : 0 ≤ 1000 * D k 3 / (4 * D k 2) ∧ 1000 * D k 3 / (4 * D k 2) ≤ 1000 * D k 3 := ⟨Int.ediv_nonneg (by omega) (by omega), Int.ediv_le_self _ (by omega)⟩
      simp (disch := first | assumption | omega | decide | exact b2i_01 _) only [s32_0, s32_1, s32_4, s32_7, s32_8, s32_11, s32_14, s32_15, s32_16, s32_19, s32_20, s32_23, s32_26, s32_27, s32_28, s32_29, s32_30, s32_33, s32_34, s32_35, s32_36, s32_39, s32_40, s32_41, s32_42, kont_some, kont_none, w32_of, if_true, if_false, b2i_eq0, ite_not, up_eq, up_ne2, up_ne1, tdv, tmd, c28, c51, hr, e, h7, h8, not_false_eq_true]
      (first | done | trivial | exact ⟨rfl, trivial⟩ | exact ⟨rfl, rfl⟩ | exact ⟨trivial, trivial⟩ | rfl | (simp; done) | fail "stuck")
    · have hq : 0 ≤ 1400 * D k 3 / (4 * D k 2) ∧ 1400 * D k 3 / (4 * D k 2) ≤ 1400 * D k 3 := ⟨Int.ediv_nonneg (by omega) (by omega), Int.ediv_le_self _ (by omega)⟩
      simp (disch := first | assumption | omega | decide | exact b2i_01 _) only [s32_0, s32_1, s32_4, s32_7, s32_8, s32_11, s32_14, s32_15, s32_16, s32_19, s32_20, s32_23, s32_26, s32_27, s32_28, s32_29, s32_30, s32_33, s32_34, s32_35, s32_36, s32_39, s32_40, s32_41, s32_42, kont_some, kont_none, w32_of, if_true, if_false, b2i_eq0, ite_not, up_eq, up_ne2, up_ne1, tdv, tmd, c28, c51, hr, e, h7, h8, not_false_eq_true]
      (first | done | trivial | exact ⟨rfl, trivial⟩ | exact ⟨rfl, rfl⟩ | exact ⟨trivial, trivial⟩ | rfl | (simp; done) | fail "stuck")
    · have hq : 0 ≤ 700 * D k 3 / (4 * D k 2) ∧ 700 * D k 3 / (4 * D k 2) ≤ 700 * D k 3 := ⟨Int.ediv_nonneg (by omega) (by omega), Int.ediv_le_self _ (by omega)⟩
      simp (disch := first | assumption | omega | decide | exact b2i_01 _) only [s32_0, s32_1, s32_4, s32_7, s32_8, s32_11, s32_14, s32_15, s32_16, s32_19, s32_20, s32_23, s32_26, s32_27, s32_28, s32_29, s32_30, s32_33, s32_34, s32_35, s32_36, s32_39, s32_40, s32_41, s32_42, kont_some, kont_none, w32_of, if_true, if_false, b2i_eq0, ite_not, up_eq, up_ne2, up_ne1, tdv, tmd, c28, c51, hr, e, h7, h8, not_false_eq_true]
      (first | done | trivial | exact ⟨rfl, trivial⟩ | exact ⟨rfl, rfl⟩ | exact ⟨trivial, trivial⟩ | rfl | (simp; done) | fail "stuck")
theorem c33 (hk : tg k = 3) (hS : S.length ≤ 2048) (h1 : 0 ≤ D k 0) (h2 : D k 0 ≤ 2) (h5 : 0 ≤ D k 3) (h6 : D k 3 ≤ 2000) : wp 33 0 [.inr (.inl k)] [] (hp S D) Q ↔ Q none (hp S (up D k 3 (D k 3 + by3 (D k 0) 10 15 5))) := by
  have h0 := tg_ne0 hk (by decide)
  have t2 : tg 4 = 100 := rfl
  have hr : rat S D 4 (D k 0) = by3 (D k 0) 10 15 5 := rat_by (j := 3) rfl (by omega) ⟨h1, h2⟩
  rcases @by3_cases (D k 0) 10 15 5 with e | e | e <;> simp (disch := first | assumption | omega | decide | exact b2i_01 _) only [s33_0, s33_1, s33_2, s33_5, s33_8, s33_9, s33_12, s33_15, s33_16, s33_19, kont_some, kont_none, w32_of, if_true, if_false, b2i_eq0, ite_not, up_eq, up_ne2, up_ne1, tdv, tmd, c51, hr, e]
end SPEC21
