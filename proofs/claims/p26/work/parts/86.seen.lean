/-! calls of the object in the law's heap; seen: one number of the row alone -/
section SPEC86
variable {S : List Int} {D E : eD} {G W : eH} {Q : Option eV → eH → Prop} {y : Nat} {ls : List eV} {a s w v p t b : Int}
theorem hp_8 : 8 ≤ (hp S D).length := by rw [hp_len]; decide
theorem cl_ask (H : ∀ Q, (wp y 0 ls [] (hp S D) Q ↔ Q (some (.inl a)) (hp S D))) : wp y 0 (ls.map (sh G.length)) [] (em G W (hp S D)) Q ↔ Q (some (.inl a)) (em G W (hp S D)) :=
  wp_em hp_8 rfl H Q
theorem l_lamp (hS : S.length ≤ 2048) (hW : Wd D) : wp 82 0 [.inr (.inl (8 + G.length)), .inl s, .inl w, .inr (.inl 0)] [] (em G W (hp S D)) Q ↔ Q (some (.inl (m152 D s w))) (em G W (hp S D)) := cl_ask (s_lamp hS hW)
theorem l_wheel (hS : S.length ≤ 2048) (hW : Wd D) : wp 83 0 [.inr (.inl (8 + G.length)), .inl w] [] (em G W (hp S D)) Q ↔ Q (some (.inl (m153 D w))) (em G W (hp S D)) := cl_ask (s_wheel hS hW)
theorem l_ranked (hS : S.length ≤ 2048) (hW : Wd D) : wp 86 0 [.inr (.inl (8 + G.length)), .inl p] [] (em G W (hp S D)) Q ↔ Q (some (.inl (m157 D p))) (em G W (hp S D)) := cl_ask (s_ranked hS hW)
theorem l_planned (hS : S.length ≤ 2048) (hW : Wd D) : wp 87 0 [.inr (.inl (8 + G.length)), .inl p, .inl w, .inr (.inl 0)] [] (em G W (hp S D)) Q ↔ Q (some (.inl (m158 D p w))) (em G W (hp S D)) := cl_ask (s_planned hS hW)
theorem l_event (hS : S.length ≤ 2048) (hW : Wd D) : wp 88 0 [.inr (.inl (8 + G.length)), .inl p, .inl w, .inr (.inl 0)] [] (em G W (hp S D)) Q ↔ Q (some (.inl (m159 D p w))) (em G W (hp S D)) := cl_ask (s_event hS hW)
theorem l_count (hS : S.length ≤ 2048) (hW : Wd D) : wp 89 0 [.inr (.inl (8 + G.length)), .inl w] [] (em G W (hp S D)) Q ↔ Q (some (.inl (m161 D w))) (em G W (hp S D)) := cl_ask (s_count hS hW)
theorem l_setting (hS : S.length ≤ 2048) (hW : Wd D) : wp 90 0 [.inr (.inl (8 + G.length)), .inl w] [] (em G W (hp S D)) Q ↔ Q (some (.inl (m162 D w))) (em G W (hp S D)) := cl_ask (s_setting hS hW)
/-- n numbers from k on, folded into a long -/
def fo (g : Int → Int) : Nat → Int → Int64 → Int64
  | 0, _, w => w
  | n + 1, k, w => fo g n (k + 1) (Int64.ofInt 31 * w + (Int32.ofInt (g k)).toInt64)
def fo2 (g g2 : Int → Int) : Nat → Int → Int64 → Int64
  | 0, _, w => w
  | n + 1, k, w => fo2 g g2 n (k + 1) (Int64.ofInt 31 * (Int64.ofInt 31 * w + (Int32.ofInt (g k)).toInt64) + (Int32.ofInt (g2 k)).toInt64)
def snD (D : eD) : Int64 := fo (m162 D) 4 0 (fo2 (fun k => m158 D (k / 3) (k % 3)) (fun k => m159 D (k / 3) (k % 3)) 30 0 (fo (fun k => m152 D (k / 8) (k % 8)) 48 0 (fo (m153 D) 8 0 (fo (m161 D) 12 0 (Int64.ofInt 7)))))
theorem seen1 (hS : S.length ≤ 2048) (hW : Wd D) (n : Nat) : ∀ (k : Int) (w : Int64), k + n = 12 → 0 ≤ k → (wp 103 6 [.inr (.inl (8 + G.length)), .inr (.inr w), .inr (.inl 0), .inl k] [] (em G W (hp S D)) Q ↔ wp 103 31 [.inr (.inl (8 + G.length)), .inr (.inr (fo (m161 D) n k w)), .inr (.inl 0), .inl 12] [] (em G W (hp S D)) Q) := by
  induction n with
  | zero =>
    intro k w hk k0
    have h1 : ¬ k < 12 := by omega
    have h2 : k = 12 := by omega
    subst h2
    rw [s103_6]
    simp (disch := first | assumption | omega | decide | exact b2i_01 _ | (unfold lx; omega)) only [s103_7, s103_9, kont_some, kont_none, w32_of, if_true, if_false, tdv, tmd, setA_eq, up_setA, rd_hi, Int.reduceToNat, if_neg (show ¬ (1 : Int) = 0 by decide), if_neg h1, fo]
  | succ n ih =>
    intro k w hk k0
    have h1 : k < 12 := by omega
    rw [s103_6]
    simp (disch := first | assumption | omega | decide | exact b2i_01 _ | (unfold lx; omega)) only [s103_7, s103_9, s103_12, s103_15, s103_16, s103_17, s103_18, s103_19, s103_22, s103_23, s103_24, s103_25, s103_28, kont_some, kont_none, w32_of, if_true, if_false, tdv, tmd, setA_eq, up_setA, rd_hi, Int.reduceToNat, if_neg (show ¬ (1 : Int) = 0 by decide), if_pos h1, l_count hS hW, fo]
    exact ih _ _ (by omega) (by omega)
theorem seen2 (hS : S.length ≤ 2048) (hW : Wd D) (n : Nat) : ∀ (k : Int) (w : Int64), k + n = 8 → 0 ≤ k → (wp 103 33 [.inr (.inl (8 + G.length)), .inr (.inr w), .inr (.inl 0), .inl k] [] (em G W (hp S D)) Q ↔ wp 103 58 [.inr (.inl (8 + G.length)), .inr (.inr (fo (m153 D) n k w)), .inr (.inl 0), .inl 8] [] (em G W (hp S D)) Q) := by
  induction n with
  | zero =>
    intro k w hk k0
    have h1 : ¬ k < 8 := by omega
    have h2 : k = 8 := by omega
    subst h2
    rw [s103_33]
    simp (disch := first | assumption | omega | decide | exact b2i_01 _ | (unfold lx; omega)) only [s103_34, s103_36, kont_some, kont_none, w32_of, if_true, if_false, tdv, tmd, setA_eq, up_setA, rd_hi, Int.reduceToNat, if_neg (show ¬ (1 : Int) = 0 by decide), if_neg h1, fo]
  | succ n ih =>
    intro k w hk k0
    have h1 : k < 8 := by omega
    rw [s103_33]
    simp (disch := first | assumption | omega | decide | exact b2i_01 _ | (unfold lx; omega)) only [s103_34, s103_36, s103_39, s103_42, s103_43, s103_44, s103_45, s103_46, s103_49, s103_50, s103_51, s103_52, s103_55, kont_some, kont_none, w32_of, if_true, if_false, tdv, tmd, setA_eq, up_setA, rd_hi, Int.reduceToNat, if_neg (show ¬ (1 : Int) = 0 by decide), if_pos h1, l_wheel hS hW, fo]
    exact ih _ _ (by omega) (by omega)
theorem seen3 (hS : S.length ≤ 2048) (hW : Wd D) (n : Nat) : ∀ (k : Int) (w : Int64), k + n = 48 → 0 ≤ k → (wp 103 60 [.inr (.inl (8 + G.length)), .inr (.inr w), .inr (.inl 0), .inl k] [] (em G W (hp S D)) Q ↔ wp 103 92 [.inr (.inl (8 + G.length)), .inr (.inr (fo (fun k => m152 D (k / 8) (k % 8)) n k w)), .inr (.inl 0), .inl 48] [] (em G W (hp S D)) Q) := by
  induction n with
  | zero =>
    intro k w hk k0
    have h1 : ¬ k < 48 := by omega
    have h2 : k = 48 := by omega
    subst h2
    rw [s103_60]
    simp (disch := first | assumption | omega | decide | exact b2i_01 _ | (unfold lx; omega)) only [s103_61, s103_63, kont_some, kont_none, w32_of, if_true, if_false, tdv, tmd, setA_eq, up_setA, rd_hi, Int.reduceToNat, if_neg (show ¬ (1 : Int) = 0 by decide), if_neg h1, fo]
  | succ n ih =>
    intro k w hk k0
    have h1 : k < 48 := by omega
    rw [s103_60]
    simp (disch := first | assumption | omega | decide | exact b2i_01 _ | (unfold lx; omega)) only [s103_61, s103_63, s103_66, s103_69, s103_70, s103_71, s103_72, s103_73, s103_75, s103_76, s103_77, s103_79, s103_80, s103_83, s103_84, s103_85, s103_86, s103_89, kont_some, kont_none, w32_of, if_true, if_false, tdv, tmd, setA_eq, up_setA, rd_hi, Int.reduceToNat, if_neg (show ¬ (1 : Int) = 0 by decide), if_pos h1, l_lamp hS hW, fo]
    exact ih _ _ (by omega) (by omega)
theorem seen4 (hS : S.length ≤ 2048) (hW : Wd D) (n : Nat) : ∀ (k : Int) (w : Int64), k + n = 30 → 0 ≤ k → (wp 103 94 [.inr (.inl (8 + G.length)), .inr (.inr w), .inr (.inl 0), .inl k] [] (em G W (hp S D)) Q ↔ wp 103 140 [.inr (.inl (8 + G.length)), .inr (.inr (fo2 (fun k => m158 D (k / 3) (k % 3)) (fun k => m159 D (k / 3) (k % 3)) n k w)), .inr (.inl 0), .inl 30] [] (em G W (hp S D)) Q) := by
  induction n with
  | zero =>
    intro k w hk k0
    have h1 : ¬ k < 30 := by omega
    have h2 : k = 30 := by omega
    subst h2
    rw [s103_94]
    simp (disch := first | assumption | omega | decide | exact b2i_01 _ | (unfold lx; omega)) only [s103_95, s103_97, kont_some, kont_none, w32_of, if_true, if_false, tdv, tmd, setA_eq, up_setA, rd_hi, Int.reduceToNat, if_neg (show ¬ (1 : Int) = 0 by decide), if_neg h1, fo2]
  | succ n ih =>
    intro k w hk k0
    have h1 : k < 30 := by omega
    rw [s103_94]
    simp (disch := first | assumption | omega | decide | exact b2i_01 _ | (unfold lx; omega)) only [s103_95, s103_97, s103_100, s103_103, s103_106, s103_107, s103_108, s103_109, s103_110, s103_111, s103_112, s103_113, s103_114, s103_115, s103_118, s103_119, s103_120, s103_121, s103_122, s103_123, s103_124, s103_125, s103_126, s103_127, s103_128, s103_131, s103_132, s103_133, s103_134, s103_137, kont_some, kont_none, w32_of, if_true, if_false, tdv, tmd, setA_eq, up_setA, rd_hi, Int.reduceToNat, if_neg (show ¬ (1 : Int) = 0 by decide), if_pos h1, l_planned hS hW, l_event hS hW, fo2]
    exact ih _ _ (by omega) (by omega)
theorem seen5 (hS : S.length ≤ 2048) (hW : Wd D) (n : Nat) : ∀ (k : Int) (w : Int64), k + n = 4 → 0 ≤ k → (wp 103 142 [.inr (.inl (8 + G.length)), .inr (.inr w), .inr (.inl 0), .inl k] [] (em G W (hp S D)) Q ↔ wp 103 166 [.inr (.inl (8 + G.length)), .inr (.inr (fo (m162 D) n k w)), .inr (.inl 0), .inl 4] [] (em G W (hp S D)) Q) := by
  induction n with
  | zero =>
    intro k w hk k0
    have h1 : ¬ k < 4 := by omega
    have h2 : k = 4 := by omega
    subst h2
    rw [s103_142]
    simp (disch := first | assumption | omega | decide | exact b2i_01 _ | (unfold lx; omega)) only [s103_143, s103_144, kont_some, kont_none, w32_of, if_true, if_false, tdv, tmd, setA_eq, up_setA, rd_hi, Int.reduceToNat, if_neg (show ¬ (1 : Int) = 0 by decide), if_neg h1, fo]
  | succ n ih =>
    intro k w hk k0
    have h1 : k < 4 := by omega
    rw [s103_142]
    simp (disch := first | assumption | omega | decide | exact b2i_01 _ | (unfold lx; omega)) only [s103_143, s103_144, s103_147, s103_150, s103_151, s103_152, s103_153, s103_154, s103_157, s103_158, s103_159, s103_160, s103_163, kont_some, kont_none, w32_of, if_true, if_false, tdv, tmd, setA_eq, up_setA, rd_hi, Int.reduceToNat, if_neg (show ¬ (1 : Int) = 0 by decide), if_pos h1, l_setting hS hW, fo]
    exact ih _ _ (by omega) (by omega)
theorem l_seenD (hS : S.length ≤ 2048) (hW : Wd D) : wp 103 0 [.inr (.inl (8 + G.length)), .inr (.inl 0), .inr (.inl 0), .inr (.inl 0)] [] (em G W (hp S D)) Q ↔ Q (some (.inr (.inr (snD D)))) (em G W (hp S D)) := by
  unfold snD
  simp (disch := first | assumption | omega | decide | exact b2i_01 _ | (unfold lx; omega)) only [s103_0, s103_3, s103_4, s103_5, kont_some, kont_none, w32_of, if_true, if_false, tdv, tmd, setA_eq, up_setA, rd_hi, Int.reduceToNat, if_neg (show ¬ (1 : Int) = 0 by decide)]
  rw [seen1 hS hW 12 0 _ (by decide) (by decide)]
  simp (disch := first | assumption | omega | decide | exact b2i_01 _ | (unfold lx; omega)) only [s103_31, s103_32, kont_some, kont_none, w32_of, if_true, if_false, tdv, tmd, setA_eq, up_setA, rd_hi, Int.reduceToNat, if_neg (show ¬ (1 : Int) = 0 by decide)]
  rw [seen2 hS hW 8 0 _ (by decide) (by decide)]
  simp (disch := first | assumption | omega | decide | exact b2i_01 _ | (unfold lx; omega)) only [s103_58, s103_59, kont_some, kont_none, w32_of, if_true, if_false, tdv, tmd, setA_eq, up_setA, rd_hi, Int.reduceToNat, if_neg (show ¬ (1 : Int) = 0 by decide)]
  rw [seen3 hS hW 48 0 _ (by decide) (by decide)]
  simp (disch := first | assumption | omega | decide | exact b2i_01 _ | (unfold lx; omega)) only [s103_92, s103_93, kont_some, kont_none, w32_of, if_true, if_false, tdv, tmd, setA_eq, up_setA, rd_hi, Int.reduceToNat, if_neg (show ¬ (1 : Int) = 0 by decide)]
  rw [seen4 hS hW 30 0 _ (by decide) (by decide)]
  simp (disch := first | assumption | omega | decide | exact b2i_01 _ | (unfold lx; omega)) only [s103_140, s103_141, kont_some, kont_none, w32_of, if_true, if_false, tdv, tmd, setA_eq, up_setA, rd_hi, Int.reduceToNat, if_neg (show ¬ (1 : Int) = 0 by decide)]
  rw [seen5 hS hW 4 0 _ (by decide) (by decide)]
  simp (disch := first | assumption | omega | decide | exact b2i_01 _ | (unfold lx; omega)) only [s103_166, s103_167, kont_some, kont_none, w32_of, if_true, if_false, tdv, tmd, setA_eq, up_setA, rd_hi, Int.reduceToNat, if_neg (show ¬ (1 : Int) = 0 by decide)]
theorem fo_cg {g g' : Int → Int} (n : Nat) : ∀ (k : Int) (w : Int64), (∀ i, k ≤ i → i < k + n → g i = g' i) → fo g n k w = fo g' n k w := by
  induction n with
  | zero => exact fun _ _ _ => rfl
  | succ n ih =>
    intro k w h
    unfold fo
    rw [h k (by omega) (by omega)]
    exact ih _ _ (fun i h1 h2 => h i (by omega) (by omega))
/-- what is seen is a function of the row -/
def sn (F : eRow) : Int64 := snD (fun _ => F)
theorem snD_eq : snD D = sn (D 159) := by
  unfold sn snD
  have e1 : fo (m161 D) 12 0 (Int64.ofInt 7) = fo (m161 (fun _ => D 159)) 12 0 (Int64.ofInt 7) := by
    refine fo_cg 12 0 _ (fun i h1 h2 => ?_)
    unfold m161
    rw [if_neg (show ¬ i = 12 by omega), if_neg (show ¬ i = 13 by omega), if_neg (show ¬ i = 12 by omega), if_neg (show ¬ i = 13 by omega)]
  rw [e1]
  rfl
theorem l_seen (hS : S.length ≤ 2048) (hW : Wd D) : wp 103 0 [.inr (.inl (8 + G.length)), .inr (.inl 0), .inr (.inl 0), .inr (.inl 0)] [] (em G W (hp S D)) Q ↔ Q (some (.inr (.inr (sn (D 159))))) (em G W (hp S D)) := by
  rw [l_seenD hS hW, snD_eq]
end SPEC86
