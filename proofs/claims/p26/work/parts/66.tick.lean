/-! the class's Beacon: a boat comes, a tick passes -/
/-- the plan in its order; the longest dark run -/
def Srt (F : eRow) : Prop := ∀ i j : Int, 0 ≤ i → i < j → j < F 49 → F (50 + 3 * i).toNat < F (50 + 3 * j).toNat
def Od (F : eRow) : Prop := F 45 ≤ F 46 ∧ Srt F
theorem Srt_of {F G : eRow} (h : Srt F) (h49 : F 49 ≤ 10) (e : ∀ j, 49 ≤ j → j < 80 → G j = F j) : Srt G := by
  intro i j h0 h1 h2
  rw [e 49 (by omega) (by omega)] at h2
  rw [e _ (by omega) (by omega), e _ (by omega) (by omega)]
  exact h i j h0 h1 h2
theorem pb_none {F : eRow} (n : Nat) : ∀ k : Int, 0 ≤ k → (∀ i, k ≤ i → i < k + n → ¬ F (50 + 3 * i).toNat = F 0) → pbF n k F = F := by
  induction n with
  | zero => exact fun _ _ _ => rfl
  | succ n ih =>
    intro k hk h
    unfold pbF
    rw [if_neg (h k (by omega) (by omega))]
    exact ih (k + 1) (by omega) (fun i h1 h2 => h i (by omega) (by omega))
theorem pb_one {F : eRow} {j : Int} (hF : St F) (hA : Atb F (50 + 3 * j)) (hj : F (50 + 3 * j).toNat = F 0) (n : Nat) : ∀ k : Int, 0 ≤ k → k ≤ j → j < k + n → k + n ≤ 10 → (∀ i, k ≤ i → i < k + n → i ≠ j → ¬ F (50 + 3 * i).toNat = F 0) → pbF n k F = lanF F (50 + 3 * j) := by
  induction n with
  | zero => exact fun k _ h1 h2 => by omega
  | succ n ih =>
    intro k hk h1 h2 h10 h
    unfold pbF
    by_cases q : k = j
    · subst q
      rw [if_pos hj]
      have l0 : lanF F (50 + 3 * k) 0 = F 0 := lan_ne hF hA (by omega)
      refine pb_none n (k + 1) (by omega) (fun i g1 g2 => ?_)
      rw [l0, lan_ne hF hA (by omega)]
      exact h i (by omega) (by omega) (by omega)
    · rw [if_neg (h k (by omega) (by omega) q)]
      exact ih (k + 1) (by omega) (by omega) (by omega) (by omega) (fun i g1 g2 g3 => h i (by omega) (by omega) g3)
theorem rot_no {D : eD} {q : Nat} {t : Int} (n : Nat) : ∀ k : Int, 0 ≤ k → rotF D q t n k = -5 → ∀ i, k ≤ i → i < k + n → i < D q 3 → ¬ D (q + 1) i.toNat = t := by
  induction n with
  | zero => exact fun k _ _ i h1 h2 => by omega
  | succ n ih =>
    intro k hk hr i h1 h2 h3
    unfold rotF at hr
    split at hr
    · next c1 =>
      split at hr
      · omega
      · next c2 =>
        by_cases q' : i = k
        · rw [q']; exact c2
        · exact ih (k + 1) (by omega) hr i (by omega) (by omega) h3
    · omega
theorem rat_p {S : List Int} {D : eD} {q z : Nat} {i : Int} (hq : tg q = 4) (hz : z = q + 1 ∨ z = q + 2 ∨ z = q + 3) (h0 : 0 ≤ i) (h1 : i < 10) : rat S D z i = D z i.toNat := by
  obtain ⟨h8, t1, t2, t3, l1', l2', l3'⟩ := pl_tg0 q (tg_lt (by omega)) hq
  have l : ln S z = 10 := by
    rw [ln_hi (by omega)]
    rcases hz with rfl | rfl | rfl <;> assumption
  unfold rat
  rw [if_pos (by omega), rd_hi (by omega)]
section SPEC66
variable {S : List Int} {D E : eD} {h : eH} {Q : Option eV → eH → Prop} {F G : eRow} {b q : Nat} {s t v ab : Int} {l0 l1 : eV}
theorem c11 (hb : tg b = 0) (hS : S.length ≤ 2048) (hR : Rel D b F) (hF : St F) (hO : Srt F) (h48 : F 48 + 1 ≤ 10000000) :
    ∃ D1 : eD, Rel D1 b (pbF (F 49).toNat 0 F) ∧ (∀ K, (K < b ∨ b + 19 < K) → D1 K = D K) ∧ ∀ Q, (wp 11 0 [.inr (.inl b), .inr (.inl 0), .inr (.inl 0), .inr (.inl 0)] [] (hp S D) Q ↔ Q none (hp S D1)) := by
  have h0 := tg_ne0 hb (by decide)
  obtain ⟨g8, g1, g2, g3, g12, g16⟩ := be_tg0 b (tg_lt (by omega)) hb
  have b49 : 0 ≤ F 49 ∧ F 49 ≤ 10 := hF.2.2.2.2.2.2.2.2.2.2.2.2.2.2.2.2.2.2.2.1
  obtain ⟨u8, u1, u2, u3, _⟩ := pl_tg0 (b + 12) (tg_lt (by omega)) g12
  obtain ⟨p1, p2, p3, p4⟩ := hR.2.2.2.2.1
  have e5 := hR.1.1
  have c38' := fun Q' => c38 (S := S) (D := D) (Q := Q') (t := F 0) g12 hS (by omega)
  by_cases hr : rotF D (b + 12) (F 0) 11 0 = -5
  · have no := rot_no (D := D) (q := b + 12) 11 0 (by omega) hr
    refine ⟨D, ?_, fun _ _ => rfl, fun Q => ?_⟩
    · rw [pb_none _ 0 (by omega) (fun i h1 h2 z => ?_)]
      · exact hR
      · obtain ⟨i', j0, j1, j2⟩ := p3 i h1 (by omega)
        exact no i' (by omega) (by omega) (by omega) (j2.1.trans z)
    · simp (disch := first | assumption | omega | decide | exact b2i_01 _ | (unfold lx; omega)) only [s11_0, s11_1, s11_4, s11_5, s11_8, s11_11, s11_12, s11_13, s11_15, s11_18, kont_some, kont_none, w32_of, if_true, if_false, tdv, tmd, setA_eq, up_setA, rd_hi, Int.reduceToNat, if_neg (show ¬ (1 : Int) = 0 by decide), e5, c38', if_pos hr]
  · obtain ⟨r0, r1, r2⟩ := (rot_b (D := D) (q := b + 12) (t := F 0) 11 0 (by omega)).resolve_left hr
    generalize rotF D (b + 12) (F 0) 11 0 = r at *
    obtain ⟨j, j0, j1, j2, j3, j4⟩ := p2 r r0 (by omega)
    have hA := Atb_of hF j0 j1
    have hj : F (50 + 3 * j).toNat = F 0 := by rw [← j2]; exact r2
    have hpb : pbF (F 49).toNat 0 F = lanF F (50 + 3 * j) := by
      refine pb_one hF hA hj _ 0 (by omega) j0 (by omega) (by omega) (fun i h1 h2 h3 z => ?_)
      rcases (show i < j ∨ j < i by omega) with y | y
      · have := hO i j h1 y j1; omega
      · have := hO j i j0 y (by omega); omega
    have hA' := hA
    obtain ⟨a1, a2, a3, a4, a5, a6⟩ := hA'
    have ea1 : (50 + 3 * j + 1).toNat = (51 + 3 * j).toNat := by omega
    have ea2 : (50 + 3 * j + 2).toNat = (52 + 3 * j).toNat := by omega
    have sL := St_lan1 hF hA
    have sT := St_tkF 6 0 _ (by omega) (by omega) sL
    have s2 := (St_lan2 sL).1
    have bs := stk_b hF a3 a4
    rw [ea1] at a3 a4 bs
    rw [ea2] at a5 a6
    have ek : rat S D (b + 12 + 2) r = F (51 + 3 * j).toNat := (rat_p g12 (by omega) r0 (by omega)).trans j3
    have em : ∀ D' : eD, D' (b + 12 + 3) = D (b + 12 + 3) → rat S D' (b + 12 + 3) r = F (52 + 3 * j).toNat := fun D' hD' => (rat_p g12 (by omega) r0 (by omega)).trans (by rw [hD']; exact j4)
    have em' := em D rfl
    have et : D (b + 2) (F (51 + 3 * j).toNat).toNat = F (41 + F (51 + 3 * j).toNat).toNat := by
      rw [hR.2.2.1 _ (by omega)]
      exact congrArg F (by omega)
    have er : rat S D (b + 2) (F (51 + 3 * j).toNat) = F (41 + F (51 + 3 * j).toNat).toNat := ((rat_b hb).2 a3 (by omega)).trans et
    have ln2 : ln S (b + 2) = 3 := (ln_hi (by omega)).trans (be_ln0 b (tg_lt (by omega)) hb).2.1
    have ew : ∀ v, rwr S D (b + 2) (F (51 + 3 * j).toNat) v = up D (b + 2) (F (51 + 3 * j).toNat).toNat v := fun v => if_pos (by omega)
    have eL : lan1 F (50 + 3 * j) = fu F (41 + F (51 + 3 * j).toNat).toNat (if 99 < F (41 + F (51 + 3 * j).toNat).toNat + F (52 + 3 * j).toNat then 99 else F (41 + F (51 + 3 * j).toNat).toNat + F (52 + 3 * j).toNat) := by
      unfold lan1
      rw [ea1, ea2]
    have hv : ∀ v : Int, v = (if 99 < F (41 + F (51 + 3 * j).toNat).toNat + F (52 + 3 * j).toNat then 99 else F (41 + F (51 + 3 * j).toNat).toNat + F (52 + 3 * j).toNat) → Rel (up D (b + 2) (F (51 + 3 * j).toNat).toNat v) b (lan1 F (50 + 3 * j)) := by
      intro v hv
      rw [eL, ← hv]
      refine Rel_ss hR hF (fun K hK hK2 => by funext j; rw [up_ne1 hK2]) (fun j hj => fu_ne (by omega)) (fun i hi => ?_) (fun i hi => ?_)
      · rw [up_ne1 (by omega), fu_ne (by omega)]; exact hR.2.1 i hi
      · by_cases q : i = (F (51 + 3 * j).toNat).toNat
        · rw [q, up_eq, show 41 + (F (51 + 3 * j).toNat).toNat = (41 + F (51 + 3 * j).toNat).toNat by omega, fu_eq]
        · rw [up_ne2 q, fu_ne (by omega)]; exact hR.2.2.1 i hi
    have R0 := hv _ rfl
    have n0 : ∀ K, K ≠ b + 2 → ∀ v, up D (b + 2) (F (51 + 3 * j).toNat).toNat v K = D K := fun K hK v => by funext j; rw [up_ne1 hK]
    obtain ⟨D1, i1, i2, i3⟩ := c12 (S := S) hb hS R0 sL
    obtain ⟨D2, k1, k2, k3⟩ := c13 (S := S) hb hS i1 sT
    have m0 : D2 b 5 = F 0 := by
      rw [k1.1.1]
      exact (lan2_ne (F := lan1 F (50 + 3 * j)) (j := 0) (by omega)).trans (lan1_ne hA (by omega))
    obtain ⟨r3, r4, r10⟩ := Rel_c9 k1 s2
    have e48 : (flF 6 0 (tkF 6 0 (lan1 F (50 + 3 * j))) 0).1 48 = F 48 := (lan2_ne (F := lan1 F (50 + 3 * j)) (j := 48) (by omega)).trans (lan1_ne hA (by omega))
    have b48 : 0 ≤ F 48 := hF.2.2.2.2.2.2.2.2.2.2.2.2.2.2.2.2.2.2.1.1
    have b80 : 0 ≤ (lan2 (lan1 F (50 + 3 * j))).1 80 ∧ (lan2 (lan1 F (50 + 3 * j))).1 80 ≤ 10 := s2.2.2.2.2.2.2.2.2.2.2.2.2.2.2.2.2.2.2.2.2.1
    have e0 : (lan2 (lan1 F (50 + 3 * j))).1 0 = F 0 := (lan2_ne (by omega)).trans (lan1_ne hA (by omega))
    have c17' := fun Q' a b' t' => c17 (S := S) (D := D2) (Q := Q') (a := a) (b := b') (t := t') g16 hS r3 r4
    have n16 := fun a b' t' => (not_g (D := D2) (g := b + 16) (a := a) (b := b') (t := t')).2.2.2.2.2
    have m11 : D2 b 11 = F 48 := k1.1.2.2.2.2.2.2.1.trans e48
    have nb := n16 4 (flF 6 0 (tkF 6 0 (lan1 F (50 + 3 * j))) 0).2 (F 0) b (by omega)
    refine ⟨up (notD D2 (b + 16) 4 (flF 6 0 (tkF 6 0 (lan1 F (50 + 3 * j))) 0).2 (F 0)) b 11 (F 48 + 1), ?_, fun K hK => ?_, fun Q => ?_⟩
    · rw [hpb]
      unfold lanF
      rw [hapF_ci b80.1 (by decide) (by decide) (by decide)]
      have R3 := Rel_lg (a := 4) (s := (flF 6 0 (tkF 6 0 (lan1 F (50 + 3 * j))) 0).2) (E := notD D2 (b + 16) 4 (flF 6 0 (tkF 6 0 (lan1 F (50 + 3 * j))) 0).2 (F 0)) k1 s2 (fun K _ hK => n16 _ _ _ K (by omega)) (fun K _ _ => by rw [show (flF 6 0 (tkF 6 0 (lan1 F (50 + 3 * j))) 0).1 0 = F 0 from e0]) (by
        rw [nb]
        obtain ⟨y1, y2, y3, y4, y5, y6, y7, y8⟩ := k1.1
        exact ⟨y1, y2, y3, y4, y5, by rw [if_neg (by decide)]; omega, y7, y8⟩)
      have s3 : St (hapF (lan2 (lan1 F (50 + 3 * j))).1 4 (lan2 (lan1 F (50 + 3 * j))).2) := St_ev s2 (fun j hj => hapF_lo b80.1 hj) (by rw [hapF_47e]; exact s2.2.2.2.2.2.2.2.2.2.2.2.2.2.2.2.2.2.1) (hapF_80b b80.1 b80.2)
      refine Rel_sc R3 s3 (fun K hK => by funext j; rw [up_ne1 hK]) (fun j hj => fu_ne (by omega)) ?_
      obtain ⟨y1, y2, y3, y4, y5, y6, y7, y8⟩ := R3.1
      rw [up_eq, up_ne2 (by decide), up_ne2 (by decide), up_ne2 (by decide), up_ne2 (by decide), up_ne2 (by decide), up_ne2 (by decide), up_ne2 (by decide), fu_eq, fu_ne (by decide), fu_ne (by decide), fu_ne (by decide), fu_ne (by decide), fu_ne (by decide), fu_ne (by decide), fu_ne (by decide)]
      exact ⟨y1, y2, y3, y4, y5, y6, by rw [show (lan2 (lan1 F (50 + 3 * j))).1 48 = F 48 from e48], y8⟩
    · rw [show ∀ (X : eD) v, up X b 11 v K = X K from fun X v => by funext j; exact up_ne1 (by omega), n16 _ _ _ K (by omega), k2 K hK, i2 K hK, n0 K (by omega)]
    · simp (disch := first | assumption | omega | decide | exact b2i_01 _ | (unfold lx; omega)) only [s11_0, s11_1, s11_4, s11_5, s11_8, s11_11, s11_12, s11_13, s11_15, s11_18, s11_19, s11_20, s11_23, s11_26, s11_27, s11_30, s11_31, s11_32, s11_35, s11_36, s11_39, s11_40, s11_43, s11_46, s11_47, s11_50, s11_51, s11_52, s11_53, s11_56, s11_57, s11_58, s11_60, s11_63, s11_66, s11_67, s11_70, s11_71, s11_74, s11_75, s11_76, s11_79, s11_80, s11_83, s11_86, s11_87, s11_88, s11_91, s11_92, s11_93, s11_96, kont_some, kont_none, w32_of, if_true, if_false, tdv, tmd, setA_eq, up_setA, rd_hi, Int.reduceToNat, if_neg (show ¬ (1 : Int) = 0 by decide), e5, c38', if_neg hr, c51, ek, er, em', c165, c52, ew, i3, k3, m0, c17', nb, m11]
end SPEC66
