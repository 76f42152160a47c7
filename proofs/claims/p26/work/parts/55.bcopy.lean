/-! a Beacon against the row; a Beacon copied -/
def Rel (D : eD) (b : Nat) (F : eRow) : Prop :=
  (D b 5 = F 0 ∧ D b 6 = F 1 ∧ D b 7 = F 2 ∧ D b 8 = F 44 ∧ D b 9 = F 46 ∧ D b 10 = F 47 ∧ D b 11 = F 48 ∧ D b 12 = F 45) ∧ (∀ i, i < 4 → D (b + 1) i = F (3 + i)) ∧ (∀ i, i < 3 → D (b + 2) i = F (41 + i)) ∧ WhR D (b + 3) F ∧ PlR D (b + 12) F ∧ LgR D (b + 16) F
def NoL (D : eD) (w : Nat) : Prop := D (w + 8) 0 = -1 ∧ (0 ≤ D (w + 8) 2 ∧ D (w + 8) 2 ≤ 1050) ∧ (0 ≤ D (w + 8) 3 ∧ D (w + 8) 3 ≤ 1066) ∧ (D (w + 8) 5 = 0 ∨ D (w + 8) 5 = 1)
theorem WhR_cg {D E : eD} {w : Nat} {F : eRow} (h : WhR D w F) (e : ∀ K, w ≤ K → K ≤ w + 8 → E K = D K) : WhR E w F := by
  obtain ⟨h1, h2, h3⟩ := h
  refine ⟨?_, fun s g1 g2 => ?_, ?_⟩
  · rw [e w (by omega) (by omega)]; exact h1
  · have q := h2 s g1 g2
    have z := lw_in (w := w) g1 g2
    unfold LmR at q ⊢
    rw [e (lw w s) (by omega) (by omega)]
    exact q
  · rw [e (w + 8) (by omega) (by omega)]; exact h3
theorem PlR_cg {D E : eD} {q : Nat} {F : eRow} (h : PlR D q F) (e : ∀ K, q ≤ K → K ≤ q + 3 → E K = D K) : PlR E q F := by
  unfold PlR PlE at h ⊢
  rw [e q (by omega) (by omega), e (q + 1) (by omega) (by omega), e (q + 2) (by omega) (by omega), e (q + 3) (by omega) (by omega)]
  exact h
theorem LgR_cg {D E : eD} {g : Nat} {F : eRow} (h : LgR D g F) (e : ∀ K, g ≤ K → K ≤ g + 3 → E K = D K) : LgR E g F := by
  unfold LgR at h ⊢
  rw [e g (by omega) (by omega), e (g + 1) (by omega) (by omega), e (g + 2) (by omega) (by omega), e (g + 3) (by omega) (by omega)]
  exact h
section SPEC55
variable {S : List Int} {D E : eD} {h : eH} {Q : Option eV → eH → Prop} {v x s p m t lim pat a : Int} {r j n g q b w o : Nat} {F R : eRow} {l0 l1 : eV}
theorem c1 (hb : tg b = 0) (ho : tg o = 0) (hS : S.length ≤ 2048) (hbo : b + 19 < o ∨ o + 19 < b) (hR : Rel D o F) (hF : St F) (hN : NoL D (b + 3)) :
    ∃ D1 : eD, Rel D1 b F ∧ (∀ K, (K < b ∨ b + 19 < K) → D1 K = D K) ∧ ∀ Q, (wp 1 0 [.inr (.inl b), .inr (.inl o)] [] (hp S D) Q ↔ Q none (hp S D1)) := by
  have h0 := tg_ne0 hb (by decide)
  have h0' := tg_ne0 ho (by decide)
  obtain ⟨g8, g1, g2, g3, g12, g16⟩ := be_tg0 b (tg_lt (by omega)) hb
  obtain ⟨k8, k1, k2, k3, k12, k16⟩ := be_tg0 o (tg_lt (by omega)) ho
  have l1 : ln S (o + 1) = ln S (b + 1) := by rw [ln_hi (by omega), ln_hi (by omega), (be_ln0 b (tg_lt (by omega)) hb).1, (be_ln0 o (tg_lt (by omega)) ho).1]
  have l2 : ln S (o + 2) = ln S (b + 2) := by rw [ln_hi (by omega), ln_hi (by omega), (be_ln0 b (tg_lt (by omega)) hb).2.1, (be_ln0 o (tg_lt (by omega)) ho).2.1]
  obtain ⟨⟨r5, r6, r7, r8, r9, r10, r11, r12⟩, rs, rt, rw', rp, rl⟩ := hR
  have n1 : ∀ K, K ≠ b + 1 → K ≠ b + 2 → setA (setA D (b + 1) (D (o + 1))) (b + 2) (D (o + 2)) K = D K := fun K q1 q2 => by rw [setA_ne q2, setA_ne q1]
  obtain ⟨D2, i1, i2, i3⟩ := c55 (S := S) (D := setA (setA D (b + 1) (D (o + 1))) (b + 2) (D (o + 2))) (F := F) g3 k3 hS (by omega)
    (WhR_cg rw' (fun K q1 q2 => n1 K (by omega) (by omega))) hF (by rw [n1 (b + 3 + 8) (by omega) (by omega)]; exact hN)
  have o2 : ∀ K, o ≤ K → K ≤ o + 19 → D2 K = D K := fun K q1 q2 => (i2 K (by omega)).trans (n1 K (by omega) (by omega))
  have c36' := fun Q' => c36 (S := S) (D := D2) (Q := Q') g12 k12 hS (by omega)
  have p2 := PlR_cp (q := b + 12) (PlR_cg rp (fun K q1 q2 => o2 K (by omega) (by omega)))
  have q2 := (cpP_at (D := D2) (q := b + 12) (o := o + 12)).2.2.2.2
  have o3 : ∀ K, o ≤ K → K ≤ o + 19 → cpP D2 (b + 12) (o + 12) K = D K := fun K z1 z2 => (q2 K (by omega)).trans (o2 K z1 z2)
  have c16' := fun Q' => c16 (S := S) (D := cpP D2 (b + 12) (o + 12)) (Q := Q') g16 k16 hS (by omega)
  have p3 := LgR_cp (g := b + 16) (LgR_cg rl (fun K z1 z2 => o3 K (by omega) (by omega)))
  have q3 := (cpG_at (D := cpP D2 (b + 12) (o + 12)) (g := b + 16) (o := o + 16)).2.2.2.2.2
  have o4 : cpG (cpP D2 (b + 12) (o + 12)) (b + 16) (o + 16) o = D o := (q3 o (by omega)).trans (o3 o (by omega) (by omega))
  generalize hE : cpG (cpP D2 (b + 12) (o + 12)) (b + 16) (o + 16) = E at c16' p3 q3 o4
  have fr : ∀ D' : eD, (∀ K, K ≠ b → D' K = E K) → (D' b 5 = F 0 ∧ D' b 6 = F 1 ∧ D' b 7 = F 2 ∧ D' b 8 = F 44 ∧ D' b 9 = F 46 ∧ D' b 10 = F 47 ∧ D' b 11 = F 48 ∧ D' b 12 = F 45) → Rel D' b F ∧ (∀ K, (K < b ∨ b + 19 < K) → D' K = D K) := by
    intro D' z1 z2
    refine ⟨⟨z2, fun i hi => ?_, fun i hi => ?_, ?_, ?_, ?_⟩, fun K hK => ?_⟩
    · rw [z1 _ (by omega), q3 _ (by omega), q2 _ (by omega), i2 _ (by omega), setA_ne (by omega), setA_eq]
      exact rs i hi
    · rw [z1 _ (by omega), q3 _ (by omega), q2 _ (by omega), i2 _ (by omega), setA_eq]
      exact rt i hi
    · exact WhR_cg i1 (fun K y1 y2 => (z1 K (by omega)).trans ((q3 K (by omega)).trans (q2 K (by omega))))
    · exact PlR_cg p2 (fun K y1 y2 => (z1 K (by omega)).trans (q3 K (by omega)))
    · exact LgR_cg p3 (fun K y1 y2 => z1 K (by omega))
    · rw [z1 K (by omega), q3 K (by omega), q2 K (by omega), i2 K (by omega), n1 K (by omega) (by omega)]
  refine ⟨up (up (up (up (up (up (up (up E b 5 (F 0)) b 6 (F 1)) b 7 (F 2)) b 8 (F 44)) b 9 (F 46)) b 10 (F 47)) b 11 (F 48)) b 12 (F 45), ?_⟩
  have z := fr (up (up (up (up (up (up (up (up E b 5 (F 0)) b 6 (F 1)) b 7 (F 2)) b 8 (F 44)) b 9 (F 46)) b 10 (F 47)) b 11 (F 48)) b 12 (F 45))
    (fun K hK => by funext i; rw [up_ne1 hK, up_ne1 hK, up_ne1 hK, up_ne1 hK, up_ne1 hK, up_ne1 hK, up_ne1 hK, up_ne1 hK])
    (by simp (disch := first | assumption | omega | decide | exact b2i_01 _) only [up_eq, up_ne2, and_self])
  refine ⟨z.1, z.2, fun Q => ?_⟩
  simp (disch := first | assumption | omega | decide | exact b2i_01 _ | (unfold lx; omega)) only [s1_0, s1_1, s1_4, s1_5, s1_8, s1_11, s1_12, s1_15, s1_16, s1_19, s1_22, s1_23, s1_26, s1_27, s1_30, s1_33, s1_34, s1_37, s1_38, s1_41, s1_44, s1_45, s1_48, s1_49, s1_52, s1_55, s1_56, s1_57, s1_60, s1_63, s1_64, s1_65, s1_68, s1_71, s1_72, s1_73, s1_76, s1_79, s1_80, s1_81, s1_84, s1_87, s1_88, s1_89, s1_92, s1_95, s1_96, s1_97, s1_100, s1_103, s1_104, s1_105, s1_108, s1_111, s1_112, s1_113, s1_116, s1_119, kont_some, kont_none, w32_of, if_true, if_false, tdv, tmd, setA_eq, up_setA, rd_hi, Int.reduceToNat, if_neg (show ¬ (1 : Int) = 0 by decide), c53, setA_ne, i3, c36', c16', up_ne1, o4, r5, r6, r7, r8, r9, r10, r11, r12]
end SPEC55
