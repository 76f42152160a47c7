/-! a Beacon's state in one row of numbers, as the check has it: 0 tick, 1 dusk, 2 dawn, 3.. settings, 7 front, 8 aim, 9 to go, 10 burns, 11.. six lamps of five (kind, strength, wear, tired, below), 41.. stock, 44 dark, 45 dark now, 46 dark most, 47 happened, 48 came, 49 boats, 50.. ten boats of three, 80 events, 81.. ten events of three -/
abbrev eRow : Type := Nat → Int
def fu (F : eRow) (j : Nat) (v : Int) : eRow := fun i => if i = j then v else F i
def setA (D : eD) (r : Nat) (F : eRow) : eD := fun k => if k = r then F else D k
theorem fu_eq {F : eRow} {j : Nat} {v : Int} : fu F j v j = v := by simp [fu]
theorem fu_ne {F : eRow} {j i : Nat} {v : Int} (h : i ≠ j) : fu F j v i = F i := by simp [fu, h]
theorem setA_eq {D : eD} {r : Nat} {F : eRow} : setA D r F r = F := by simp [setA]
theorem setA_ne {D : eD} {r k : Nat} {F : eRow} (h : k ≠ r) : setA D r F k = D k := by simp [setA, h]
theorem up_as {D : eD} {r j : Nat} {v : Int} : up D r j v = setA D r (fu (D r) j v) := by
  funext k i
  unfold up setA fu
  by_cases hk : k = r
  · subst hk; by_cases hi : i = j <;> simp [hi]
  · simp [hk]
theorem up_setA {D : eD} {r j : Nat} {F : eRow} {v : Int} : up (setA D r F) r j v = setA D r (fu F j v) := by
  rw [up_as, setA_eq]
  funext k
  unfold setA
  by_cases hk : k = r <;> simp [hk]
theorem setA_setA {D : eD} {r : Nat} {F G : eRow} : setA (setA D r F) r G = setA D r G := by
  funext k
  unfold setA
  by_cases hk : k = r <;> simp [hk]
theorem setA_self {D : eD} {r : Nat} : setA D r (D r) = D := by
  funext k
  unfold setA
  split
  · next h => rw [h]
  · rfl
/-- a lamp's number in the row -/
def lx (s p : Int) : Nat := (11 + 5 * s + p).toNat
def Arr (S : List Int) (r : Nat) : Prop := tg r = 100 ∧ ln S r = 111 ∧ 8 ≤ r
abbrev thF (F : eRow) (s : Int) : Prop := ¬ F (lx s 0) = -5
def lfF (F : eRow) (s : Int) : Int := lifeF (F (lx s 0)) (F (lx s 1))
def nmF (F : eRow) (s : Int) : Int := by3 (F (lx s 0)) 1000 1400 700
abbrev outF (F : eRow) (s : Int) : Prop := lfF F s ≤ F (lx s 2)
def cuF (F : eRow) (s : Int) : Int := curF (nmF F s) (lfF F s) (F (lx s 2))
abbrev bwF (F : eRow) (s : Int) : Prop := 100 * cuF F s < F 3 * nmF F s
abbrev goF (F : eRow) (s fr : Int) : Prop := (¬ F (lx s 0) = -5 ∧ F (lx s 2) < lfF F s) ∧ ¬ (fr = 1 ∧ F (lx s 3) = 1)
/-- a lamp's numbers within their bounds -/
def LmA (F : eRow) (s : Int) : Prop := 0 ≤ F (lx s 1) ∧ F (lx s 1) ≤ 150 ∧ 0 ≤ F (lx s 2) ∧ F (lx s 2) ≤ 2000 ∧ (F (lx s 3) = 0 ∨ F (lx s 3) = 1) ∧ 0 ≤ F (lx s 4) ∧ F (lx s 4) ≤ 2000 ∧ (F (lx s 0) = -5 ∨ (0 ≤ F (lx s 0) ∧ F (lx s 0) ≤ 2 ∧ 50 ≤ F (lx s 1)))
theorem lifeF_b0 {kind str : Int} (h1 : 0 ≤ str) (h2 : str ≤ 150) : 0 ≤ lifeF kind str ∧ lifeF kind str ≤ 1050 := by
  unfold lifeF
  rcases @by3_cases kind 400 700 200 with e | e | e <;> rw [e] <;> omega
section SPEC22
variable {S : List Int} {D : eD} {h : eH} {Q : Option eV → eH → Prop} {r : Nat} {F : eRow} {s p v x : Int}
theorem c106 (ha : tg r = 100) (hl : ln S r = 111) (h8 : 8 ≤ r) (h1 : 0 ≤ s) (h2 : s ≤ 5) (h3 : 0 ≤ p) (h4 : p ≤ 4) : wp 106 0 [.inr r, .inl s, .inl p] [] (hp S (setA D r F)) Q ↔ Q (some (.inl (F (lx s p)))) (hp S (setA D r F)) := by
  have h0 := tg_ne0 ha (by decide)
  simp (disch := first | assumption | omega | decide | exact b2i_01 _ | (unfold lx; omega)) only [s106_0, s106_1, s106_3, s106_4, s106_5, s106_6, s106_7, s106_8, s106_9, s106_10, kont_some, kont_none, w32_of, if_true, if_false, b2i_eq0, ite_not, tdv, tmd, setA_eq, up_setA, fu_eq, fu_ne, rd_hi, Int.reduceToNat, rd_hi]
  rfl
theorem c107 (ha : tg r = 100) (hl : ln S r = 111) (h8 : 8 ≤ r) (h1 : 0 ≤ s) (h2 : s ≤ 5) (h3 : 0 ≤ p) (h4 : p ≤ 4) : wp 107 0 [.inr r, .inl s, .inl p, .inl v] [] (hp S (setA D r F)) Q ↔ Q none (hp S (setA D r (fu F (lx s p) v))) := by
  have h0 := tg_ne0 ha (by decide)
  simp (disch := first | assumption | omega | decide | exact b2i_01 _ | (unfold lx; omega)) only [s107_0, s107_1, s107_3, s107_4, s107_5, s107_6, s107_7, s107_8, s107_9, s107_10, s107_11, kont_some, kont_none, w32_of, if_true, if_false, b2i_eq0, ite_not, tdv, tmd, setA_eq, up_setA, fu_eq, fu_ne, rd_hi, Int.reduceToNat]
  rfl
theorem c108 (ha : tg r = 100) (hl : ln S r = 111) (h8 : 8 ≤ r) (h1 : 0 ≤ s) (h2 : s ≤ 5) : wp 108 0 [.inr r, .inl s] [] (hp S (setA D r F)) Q ↔ Q none (hp S (setA D r (fu F (lx s 0) (-5)))) := by
  have h0 := tg_ne0 ha (by decide)
  simp (disch := first | assumption | omega | decide | exact b2i_01 _ | (unfold lx; omega)) only [s108_0, s108_1, s108_2, s108_3, s108_5, s108_8, kont_some, kont_none, w32_of, if_true, if_false, b2i_eq0, ite_not, tdv, tmd, setA_eq, up_setA, fu_eq, fu_ne, rd_hi, Int.reduceToNat, c107]
theorem c109 (ha : tg r = 100) (hl : ln S r = 111) (h8 : 8 ≤ r) (h1 : 0 ≤ s) (h2 : s ≤ 5) : wp 109 0 [.inr r, .inl s] [] (hp S (setA D r F)) Q ↔ Q (some (.inl (b2i (¬ F (lx s 0) = -5)))) (hp S (setA D r F)) := by
  have h0 := tg_ne0 ha (by decide)
  refine wp_iff ?_ Q
  by_cases h3 : F (lx s 0) = -5
  · rw [b2i_f (by omega)]; simp (disch := first | assumption | omega | decide | exact b2i_01 _ | (unfold lx; omega)) only [s109_0, s109_1, s109_2, s109_3, s109_6, s109_8, s109_11, s109_12, s109_15, s109_16, kont_some, kont_none, w32_of, if_true, if_false, b2i_eq0, ite_not, tdv, tmd, setA_eq, up_setA, fu_eq, fu_ne, rd_hi, Int.reduceToNat, c106, h3]; (first | done | trivial | exact ⟨rfl, trivial⟩ | exact ⟨rfl, rfl⟩ | exact ⟨trivial, trivial⟩ | rfl | (simp; done) | fail "stuck")
  · rw [b2i_t (by omega)]; simp (disch := first | assumption | omega | decide | exact b2i_01 _ | (unfold lx; omega)) only [s109_0, s109_1, s109_2, s109_3, s109_6, s109_8, s109_11, s109_12, s109_15, s109_16, kont_some, kont_none, w32_of, if_true, if_false, b2i_eq0, ite_not, tdv, tmd, setA_eq, up_setA, fu_eq, fu_ne, rd_hi, Int.reduceToNat, c106, h3]; (first | done | trivial | exact ⟨rfl, trivial⟩ | exact ⟨rfl, rfl⟩ | exact ⟨trivial, trivial⟩ | rfl | (simp; done) | fail "stuck")
def comF (F : eRow) (s kind str : Int) : eRow := fu (fu (fu (fu (fu F (lx s 0) kind) (lx s 1) str) (lx s 2) 0) (lx s 3) 0) (lx s 4) 0
theorem c110 (ha : tg r = 100) (hl : ln S r = 111) (h8 : 8 ≤ r) (h1 : 0 ≤ s) (h2 : s ≤ 5) : wp 110 0 [.inr r, .inl s, .inl v, .inl x] [] (hp S (setA D r F)) Q ↔ Q none (hp S (setA D r (comF F s v x))) := by
  have h0 := tg_ne0 ha (by decide)
  simp (disch := first | assumption | omega | decide | exact b2i_01 _ | (unfold lx; omega)) only [s110_0, s110_1, s110_2, s110_3, s110_4, s110_7, s110_8, s110_9, s110_10, s110_11, s110_14, s110_15, s110_16, s110_17, s110_18, s110_21, s110_22, s110_23, s110_24, s110_25, s110_28, s110_29, s110_30, s110_31, s110_32, s110_35, kont_some, kont_none, w32_of, if_true, if_false, b2i_eq0, ite_not, tdv, tmd, setA_eq, up_setA, fu_eq, fu_ne, rd_hi, Int.reduceToNat, c107]
  rfl
theorem c112 (ha : tg r = 100) (hl : ln S r = 111) (h8 : 8 ≤ r) (h1 : 0 ≤ s) (h2 : s ≤ 5) (h3 : LmA F s) : wp 112 0 [.inr r, .inl s] [] (hp S (setA D r F)) Q ↔ Q (some (.inl (lfF F s))) (hp S (setA D r F)) := by
  have h0 := tg_ne0 ha (by decide)
  obtain ⟨a1, a2, a3, a4, a5, a6, a7, a8⟩ := h3
  refine wp_iff ?_ Q
  unfold lfF lifeF
  rcases @by3_cases (F (lx s 0)) 400 700 200 with e | e | e <;> (simp (disch := first | assumption | omega | decide | exact b2i_01 _ | (unfold lx; omega)) only [s112_0, s112_1, s112_2, s112_3, s112_6, s112_9, s112_12, s112_15, s112_18, s112_19, s112_20, s112_21, s112_24, s112_25, s112_27, s112_28, kont_some, kont_none, w32_of, if_true, if_false, b2i_eq0, ite_not, tdv, tmd, setA_eq, up_setA, fu_eq, fu_ne, rd_hi, Int.reduceToNat, c106, c111, e]; (first | done | trivial | exact ⟨rfl, trivial⟩ | exact ⟨rfl, rfl⟩ | exact ⟨trivial, trivial⟩ | rfl | (simp; done) | fail "stuck"))
theorem c113 (ha : tg r = 100) (hl : ln S r = 111) (h8 : 8 ≤ r) (h1 : 0 ≤ s) (h2 : s ≤ 5) : wp 113 0 [.inr r, .inl s] [] (hp S (setA D r F)) Q ↔ Q (some (.inl (nmF F s))) (hp S (setA D r F)) := by
  have h0 := tg_ne0 ha (by decide)
  simp (disch := first | assumption | omega | decide | exact b2i_01 _ | (unfold lx; omega)) only [s113_0, s113_1, s113_2, s113_3, s113_6, s113_9, s113_12, s113_15, s113_18, kont_some, kont_none, w32_of, if_true, if_false, b2i_eq0, ite_not, tdv, tmd, setA_eq, up_setA, fu_eq, fu_ne, rd_hi, Int.reduceToNat, c106, c111]
  rfl
theorem c114 (ha : tg r = 100) (hl : ln S r = 111) (h8 : 8 ≤ r) (h1 : 0 ≤ s) (h2 : s ≤ 5) (h3 : LmA F s) : wp 114 0 [.inr r, .inl s] [] (hp S (setA D r F)) Q ↔ Q (some (.inl (b2i (lfF F s ≤ F (lx s 2))))) (hp S (setA D r F)) := by
  have h0 := tg_ne0 ha (by decide)
  refine wp_iff ?_ Q
  by_cases h4 : F (lx s 2) < lfF F s
  · rw [b2i_f (by omega)]; simp (disch := first | assumption | omega | decide | exact b2i_01 _ | (unfold lx; omega)) only [s114_0, s114_1, s114_2, s114_3, s114_6, s114_7, s114_8, s114_11, s114_14, s114_15, s114_18, s114_19, kont_some, kont_none, w32_of, if_true, if_false, b2i_eq0, ite_not, tdv, tmd, setA_eq, up_setA, fu_eq, fu_ne, rd_hi, Int.reduceToNat, c106, c112, h4]; (first | done | trivial | exact ⟨rfl, trivial⟩ | exact ⟨rfl, rfl⟩ | exact ⟨trivial, trivial⟩ | rfl | (simp; done) | fail "stuck")
  · rw [b2i_t (by omega)]; simp (disch := first | assumption | omega | decide | exact b2i_01 _ | (unfold lx; omega)) only [s114_0, s114_1, s114_2, s114_3, s114_6, s114_7, s114_8, s114_11, s114_14, s114_15, s114_18, s114_19, kont_some, kont_none, w32_of, if_true, if_false, b2i_eq0, ite_not, tdv, tmd, setA_eq, up_setA, fu_eq, fu_ne, rd_hi, Int.reduceToNat, c106, c112, h4]; (first | done | trivial | exact ⟨rfl, trivial⟩ | exact ⟨rfl, rfl⟩ | exact ⟨trivial, trivial⟩ | rfl | (simp; done) | fail "stuck")
theorem c115 (ha : tg r = 100) (hl : ln S r = 111) (h8 : 8 ≤ r) (h1 : 0 ≤ s) (h2 : s ≤ 5) (h3 : LmA F s) (h50 : 50 ≤ F (lx s 1)) : wp 115 0 [.inr r, .inl s, .inr 0] [] (hp S (setA D r F)) Q ↔ Q (some (.inl (cuF F s))) (hp S (setA D r F)) := by
  have h0 := tg_ne0 ha (by decide)
  have h3' := h3
  obtain ⟨a1, a2, a3, a4, a5, a6, a7, a8⟩ := h3'
  have hb := lifeF_b (kind := F (lx s 0)) h50 a2
  have hb1 : 100 ≤ lfF F s ∧ lfF F s ≤ 1050 := hb
  refine wp_iff ?_ Q
  unfold cuF curF
  by_cases h4 : lfF F s ≤ F (lx s 2)
  · rw [if_pos h4]
    simp (disch := first | assumption | omega | decide | exact b2i_01 _ | (unfold lx; omega)) only [s115_0, s115_1, s115_2, s115_5, s115_6, s115_7, s115_8, s115_11, s115_14, s115_15, s115_18, s115_19, s115_20, s115_21, s115_22, s115_23, s115_26, s115_27, s115_28, s115_29, s115_30, s115_33, s115_34, s115_35, s115_36, kont_some, kont_none, w32_of, if_true, if_false, b2i_eq0, ite_not, tdv, tmd, setA_eq, up_setA, fu_eq, fu_ne, rd_hi, Int.reduceToNat, c106, c112, c113, c114, h4, not_true_eq_false]
    (first | done | trivial | exact ⟨rfl, trivial⟩ | exact ⟨rfl, rfl⟩ | exact ⟨trivial, trivial⟩ | rfl | (simp; done) | fail "stuck")
  · rw [if_neg h4]
    rcases @by3_cases (F (lx s 0)) 1000 1400 700 with e | e | e
    all_goals
      have e2 : nmF F s = _ := e
      rw [e2]
    · have hq : 0 ≤ 1000 * F (lx s 2) / (4 * lfF F s) ∧ 1000 * F (lx s 2) / (4 * lfF F s) ≤ 1000 * F (lx s 2) := ⟨Int.ediv_nonneg (by omega) (by omega), Int.ediv_le_self _ (by omega)⟩
      simp (disch := first | assumption | omega | decide | exact b2i_01 _ | (unfold lx; omega)) only [s115_0, s115_1, s115_2, s115_5, s115_6, s115_7, s115_8, s115_11, s115_14, s115_15, s115_18, s115_19, s115_20, s115_21, s115_22, s115_23, s115_26, s115_27, s115_28, s115_29, s115_30, s115_33, s115_34, s115_35, s115_36, kont_some, kont_none, w32_of, if_true, if_false, b2i_eq0, ite_not, tdv, tmd, setA_eq, up_setA, fu_eq, fu_ne, rd_hi, Int.reduceToNat, c106, c112, c113, c114, e2, h4, not_false_eq_true]
      (first | done | trivial | exact ⟨rfl, trivial⟩ | exact ⟨rfl, rfl⟩ | exact ⟨trivial, trivial⟩ | rfl | (simp; done) | fail "stuck")
    · have hq : 0 ≤ 1400 * F (lx s 2) / (4 * lfF F s) ∧ 1400 * F (lx s 2) / (4 * lfF F s) ≤ 1400 * F (lx s 2) := ⟨Int.ediv_nonneg (by omega) (by omega), Int.ediv_le_self _ (by omega)⟩
      simp (disch := first | assumption | omega | decide | exact b2i_01 _ | (unfold lx; omega)) only [s115_0, s115_1, s115_2, s115_5, s115_6, s115_7, s115_8, s115_11, s115_14, s115_15, s115_18, s115_19, s115_20, s115_21, s115_22, s115_23, s115_26, s115_27, s115_28, s115_29, s115_30, s115_33, s115_34, s115_35, s115_36, kont_some, kont_none, w32_of, if_true, if_false, b2i_eq0, ite_not, tdv, tmd, setA_eq, up_setA, fu_eq, fu_ne, rd_hi, Int.reduceToNat, c106, c112, c113, c114, e2, h4, not_false_eq_true]
      (first | done | trivial | exact ⟨rfl, trivial⟩ | exact ⟨rfl, rfl⟩ | exact ⟨trivial, trivial⟩ | rfl | (simp; done) | fail "stuck")
    · have hq : 0 ≤ 700 * F (lx s 2) / (4 * lfF F s) ∧ 700 * F (lx s 2) / (4 * lfF F s) ≤ 700 * F (lx s 2) := ⟨Int.ediv_nonneg (by omega) (by omega), Int.ediv_le_self _ (by omega)⟩
      simp (disch := first | assumption | omega | decide | exact b2i_01 _ | (unfold lx; omega)) only [s115_0, s115_1, s115_2, s115_5, s115_6, s115_7, s115_8, s115_11, s115_14, s115_15, s115_18, s115_19, s115_20, s115_21, s115_22, s115_23, s115_26, s115_27, s115_28, s115_29, s115_30, s115_33, s115_34, s115_35, s115_36, kont_some, kont_none, w32_of, if_true, if_false, b2i_eq0, ite_not, tdv, tmd, setA_eq, up_setA, fu_eq, fu_ne, rd_hi, Int.reduceToNat, c106, c112, c113, c114, e2, h4, not_false_eq_true]
      (first | done | trivial | exact ⟨rfl, trivial⟩ | exact ⟨rfl, rfl⟩ | exact ⟨trivial, trivial⟩ | rfl | (simp; done) | fail "stuck")
theorem curF_b {nom life wear : Int} (h1 : 0 ≤ nom) (h2 : nom ≤ 1400) (h3 : 0 ≤ wear) (h4 : 1 ≤ life) : 0 ≤ curF nom life wear ∧ curF nom life wear ≤ 1400 := by
  unfold curF
  split
  · omega
  · next h5 =>
    have : nom * wear / (4 * life) ≤ nom := by
      apply Int.ediv_le_of_le_mul (by omega)
      exact Int.mul_le_mul_of_nonneg_left (by omega) h1
    have : 0 ≤ nom * wear / (4 * life) := Int.ediv_nonneg (Int.mul_nonneg h1 h3) (by omega)
    omega
theorem nm_b {F : eRow} {s : Int} : 700 ≤ nmF F s ∧ nmF F s ≤ 1400 := by
  unfold nmF
  rcases @by3_cases (F (lx s 0)) 1000 1400 700 with e | e | e <;> rw [e] <;> omega
theorem c116 (ha : tg r = 100) (hl : ln S r = 111) (h8 : 8 ≤ r) (h1 : 0 ≤ s) (h2 : s ≤ 5) (h3 : LmA F s) (h50 : 50 ≤ F (lx s 1)) (h5 : 0 ≤ F 3) (h6 : F 3 ≤ 100) : wp 116 0 [.inr r, .inl s] [] (hp S (setA D r F)) Q ↔ Q (some (.inl (b2i (100 * cuF F s < F 3 * nmF F s)))) (hp S (setA D r F)) := by
  have h0 := tg_ne0 ha (by decide)
  have h3' := h3
  obtain ⟨a1, a2, a3, a4, a5, a6, a7, a8⟩ := h3'
  have hb := lifeF_b (kind := F (lx s 0)) h50 a2
  have hb1 : 100 ≤ lfF F s ∧ lfF F s ≤ 1050 := hb
  have hn := nm_b (F := F) (s := s)
  have hc := curF_b (nom := nmF F s) (life := lfF F s) (wear := F (lx s 2)) (by omega) (by omega) a3 (by omega)
  have hc2 : 0 ≤ cuF F s ∧ cuF F s ≤ 1400 := hc
  have hm : 0 ≤ F 3 * nmF F s ∧ F 3 * nmF F s ≤ 140000 := by
    constructor
    · exact Int.mul_nonneg h5 (by omega)
    · have := Int.mul_le_mul h6 hn.2 (by omega) (by omega : (0 : Int) ≤ 100)
      omega
  refine wp_iff ?_ Q
  by_cases h4 : 100 * cuF F s < F 3 * nmF F s
  · rw [b2i_t h4]; simp (disch := first | assumption | omega | decide | exact b2i_01 _ | (unfold lx; omega)) only [s116_0, s116_2, s116_3, s116_4, s116_7, s116_8, s116_9, s116_10, s116_11, s116_12, s116_13, s116_16, s116_17, s116_20, s116_21, s116_24, s116_25, kont_some, kont_none, w32_of, if_true, if_false, b2i_eq0, ite_not, tdv, tmd, setA_eq, up_setA, fu_eq, fu_ne, rd_hi, Int.reduceToNat, c113, c115, h4]; (first | done | trivial | exact ⟨rfl, trivial⟩ | exact ⟨rfl, rfl⟩ | exact ⟨trivial, trivial⟩ | rfl | (simp; done) | fail "stuck")
  · rw [b2i_f h4]; simp (disch := first | assumption | omega | decide | exact b2i_01 _ | (unfold lx; omega)) only [s116_0, s116_2, s116_3, s116_4, s116_7, s116_8, s116_9, s116_10, s116_11, s116_12, s116_13, s116_16, s116_17, s116_20, s116_21, s116_24, s116_25, kont_some, kont_none, w32_of, if_true, if_false, b2i_eq0, ite_not, tdv, tmd, setA_eq, up_setA, fu_eq, fu_ne, rd_hi, Int.reduceToNat, c113, c115, h4]; (first | done | trivial | exact ⟨rfl, trivial⟩ | exact ⟨rfl, rfl⟩ | exact ⟨trivial, trivial⟩ | rfl | (simp; done) | fail "stuck")
theorem c117 (ha : tg r = 100) (hl : ln S r = 111) (h8 : 8 ≤ r) (h1 : 0 ≤ s) (h2 : s ≤ 5) (h3 : LmA F s) (hv : v = 0 ∨ v = 1) : wp 117 0 [.inr r, .inl s, .inl v] [] (hp S (setA D r F)) Q ↔ Q (some (.inl (b2i ((¬ F (lx s 0) = -5 ∧ F (lx s 2) < lfF F s) ∧ ¬ (v = 1 ∧ F (lx s 3) = 1))))) (hp S (setA D r F)) := by
  have h0 := tg_ne0 ha (by decide)
  refine wp_iff ?_ Q
  by_cases h4 : F (lx s 0) = -5
  · rw [b2i_f (by omega)]; simp (disch := first | assumption | omega | decide | exact b2i_01 _ | (unfold lx; omega)) only [s117_0, s117_1, s117_2, s117_5, s117_8, s117_9, s117_10, s117_13, s117_16, s117_17, s117_20, s117_21, s117_22, s117_23, s117_26, s117_27, s117_30, s117_31, s117_34, s117_35, kont_some, kont_none, w32_of, if_true, if_false, b2i_eq0, ite_not, tdv, tmd, setA_eq, up_setA, fu_eq, fu_ne, rd_hi, Int.reduceToNat, c106, c109, c114, h4, not_true_eq_false]; (first | done | trivial | exact ⟨rfl, trivial⟩ | exact ⟨rfl, rfl⟩ | exact ⟨trivial, trivial⟩ | rfl | (simp; done) | fail "stuck")
  · by_cases h5 : lfF F s ≤ F (lx s 2)
    · rw [b2i_f (by omega)]; simp (disch := first | assumption | omega | decide | exact b2i_01 _ | (unfold lx; omega)) only [s117_0, s117_1, s117_2, s117_5, s117_8, s117_9, s117_10, s117_13, s117_16, s117_17, s117_20, s117_21, s117_22, s117_23, s117_26, s117_27, s117_30, s117_31, s117_34, s117_35, kont_some, kont_none, w32_of, if_true, if_false, b2i_eq0, ite_not, tdv, tmd, setA_eq, up_setA, fu_eq, fu_ne, rd_hi, Int.reduceToNat, c106, c109, c114, h4, h5, not_true_eq_false, not_false_eq_true]; (first | done | trivial | exact ⟨rfl, trivial⟩ | exact ⟨rfl, rfl⟩ | exact ⟨trivial, trivial⟩ | rfl | (simp; done) | fail "stuck")
    · rcases hv with rfl | rfl
      · rw [b2i_t (by omega)]; simp (disch := first | assumption | omega | decide | exact b2i_01 _ | (unfold lx; omega)) only [s117_0, s117_1, s117_2, s117_5, s117_8, s117_9, s117_10, s117_13, s117_16, s117_17, s117_20, s117_21, s117_22, s117_23, s117_26, s117_27, s117_30, s117_31, s117_34, s117_35, kont_some, kont_none, w32_of, if_true, if_false, b2i_eq0, ite_not, tdv, tmd, setA_eq, up_setA, fu_eq, fu_ne, rd_hi, Int.reduceToNat, c106, c109, c114, h4, h5, not_true_eq_false, not_false_eq_true]; (first | done | trivial | exact ⟨rfl, trivial⟩ | exact ⟨rfl, rfl⟩ | exact ⟨trivial, trivial⟩ | rfl | (simp; done) | fail "stuck")
      · by_cases h6 : F (lx s 3) = 1
        · rw [b2i_f (by omega)]; simp (disch := first | assumption | omega | decide | exact b2i_01 _ | (unfold lx; omega)) only [s117_0, s117_1, s117_2, s117_5, s117_8, s117_9, s117_10, s117_13, s117_16, s117_17, s117_20, s117_21, s117_22, s117_23, s117_26, s117_27, s117_30, s117_31, s117_34, s117_35, kont_some, kont_none, w32_of, if_true, if_false, b2i_eq0, ite_not, tdv, tmd, setA_eq, up_setA, fu_eq, fu_ne, rd_hi, Int.reduceToNat, c106, c109, c114, h4, h5, h6, not_true_eq_false, not_false_eq_true]; (first | done | trivial | exact ⟨rfl, trivial⟩ | exact ⟨rfl, rfl⟩ | exact ⟨trivial, trivial⟩ | rfl | (simp; done) | fail "stuck")
        · rw [b2i_t (by omega)]; simp (disch := first | assumption | omega | decide | exact b2i_01 _ | (unfold lx; omega)) only [s117_0, s117_1, s117_2, s117_5, s117_8, s117_9, s117_10, s117_13, s117_16, s117_17, s117_20, s117_21, s117_22, s117_23, s117_26, s117_27, s117_30, s117_31, s117_34, s117_35, kont_some, kont_none, w32_of, if_true, if_false, b2i_eq0, ite_not, tdv, tmd, setA_eq, up_setA, fu_eq, fu_ne, rd_hi, Int.reduceToNat, c106, c109, c114, h4, h5, h6, not_true_eq_false, not_false_eq_true]; (first | done | trivial | exact ⟨rfl, trivial⟩ | exact ⟨rfl, rfl⟩ | exact ⟨trivial, trivial⟩ | rfl | (simp; done) | fail "stuck")
end SPEC22
