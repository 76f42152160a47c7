/-! the law's run, whole -/
theorem eSz_em {S : List Int} {D : eD} {G W : eH} : eSz (em G W (hp S D)) = zs G + z0 + zs W := by
  have e : (em G W (hp S D)).drop 8 = G ++ ob G.length S D ++ W := by
    rw [em_hp, List.append_assoc, List.append_assoc, List.drop_left' hS_len, List.append_assoc]
  unfold eSz
  rw [e]
  show zs (G ++ ob G.length S D ++ W) = _
  rw [zs_app, zs_app, zs_ob]
theorem w_law {S : List Int} (hT : S.length ≤ 2048) : ∃ G2 : eH, G2.length = 3000 ∧ zs G2 = 20 * z0 ∧ wp 111 0 [.inr (.inl 7), .inr (.inl 0), .inr (.inl 0), .inr (.inl 0), .inr (.inl 0), .inr (.inl 0), .inr (.inl 0), .inr (.inl 0), .inr (.inl 0), .inr (.inl 0)] [] (em [] [] (hS S)) (fun r h' => r = some (.inl 1) ∧ ∃ (D' : eD) (L' : List Int64), L'.length = 64 ∧ h' = em G2 [(104, lgs L')] (hp S D')) := by
  obtain ⟨G1, ⟨g1, z1⟩, e1⟩ := w_nights (S := S) (G := []) hT
  obtain ⟨G2, ⟨g2, z2⟩, e2⟩ := w_texts (S := S) (G := G1)
  have hg : G2.length = 3000 := by rw [g2, g1]; rfl
  have hz : zs G2 = 20 * z0 := by
    rw [z2, z1, show zs ([] : eH) = 0 from rfl]
    generalize z0 = z
    omega
  refine ⟨G2, hg, hz, ?_⟩
  have hI : Iv Dz (List.replicate 64 0) 0 0 := ⟨Dz_Wd, Dz_cu, Dz_3, fun i i0 i1 => by rw [Dz_3] at i1; omega, by decide +kernel, by decide +kernel, Int.le_refl _⟩
  obtain ⟨D2, L2, c2, m5, m6, m7, m8, m9, q1, q2, q3, e3⟩ := lp_all (G := G2) hT 24 0 0 0 Dz (List.replicate 64 0) (.inr (.inl 0)) (.inr (.inl 0)) (.inr (.inl 0)) (.inr (.inl 0)) (.inr (.inl 0)) (by decide) (by decide) (by decide) hI (by decide) (by decide)
  have t := tl_all (G := G2) (k := 24) (l5 := m5) (l6 := m6) (l7 := m7) (l8 := m8) (l9 := m9) hT q1 q2 q3
  rw [← e3] at t
  have a1 : ∀ Q, (wp 111 0 [.inr (.inl 7), .inr (.inl 0), .inr (.inl 0), .inr (.inl 0), .inr (.inl 0), .inr (.inl 0), .inr (.inl 0), .inr (.inl 0), .inr (.inl 0), .inr (.inl 0)] [] (em [] [] (hS S)) Q ↔ wp 111 14 [.inr (.inl 7), .inr (.inl 0), .inr (.inl 0), .inr (.inl 0), .inr (.inl 0), .inr (.inl 0), .inr (.inl 0), .inr (.inl 0), .inr (.inl 0), .inr (.inl 0)] [] (em G2 [] (hS S)) Q) := fun Q => by
    simp (disch := first | assumption | omega | decide | exact b2i_01 _ | (unfold lx; omega)) only [s111_0, s111_3, s111_6, s111_9, kont_some, kont_none, w32_of, if_true, if_false, tdv, tmd, setA_eq, up_setA, rd_hi, Int.reduceToNat, if_neg (show ¬ (1 : Int) = 0 by decide), e1, e2]
  have a2 : ∀ Q, (wp 111 14 [.inr (.inl 7), .inr (.inl 0), .inr (.inl 0), .inr (.inl 0), .inr (.inl 0), .inr (.inl 0), .inr (.inl 0), .inr (.inl 0), .inr (.inl 0), .inr (.inl 0)] [] (em G2 [] (hS S)) Q ↔ wp 111 32 [.inr (.inl 7), .inr (.inl (8 + G2.length)), .inr (.inl (158 + G2.length)), .inl 0, .inl 0, .inr (.inl 0), .inr (.inl 0), .inr (.inl 0), .inr (.inl 0), .inr (.inl 0)] [] (em G2 [(104, lgs (List.replicate 64 0))] (hp S Dz)) Q) := fun Q => by
    simp (disch := first | assumption | omega | decide | exact b2i_01 _ | (unfold lx; omega)) only [s111_14, s111_17, s111_18, s111_21, s111_22, s111_24, s111_26, s111_27, s111_28, s111_29, s111_30, kont_some, kont_none, w32_of, if_true, if_false, tdv, tmd, setA_eq, up_setA, rd_hi, Int.reduceToNat, if_neg (show ¬ (1 : Int) = 0 by decide), w_init]
  rw [a1, a2]
  exact t
theorem e_run {L : Nat} {xs : Nat → Int32} (hL : L ≤ 260) : ∃ (n : Nat) (h' : eH), ex n eLaw 0 (eLoc eLaw [.inr (.inl 7)]) [] (eH0 L xs) = some (some (.inl 1), h') ∧ h'.length ≤ 623108 ∧ eSz h' ≤ 7232947 := by
  have hT : ((List.range L).map fun j => (xs j).toInt).length ≤ 2048 := by
    rw [List.length_map, List.length_range]
    omega
  obtain ⟨G2, g2, z2, n, r, h', h1, rfl, D', L', hl, rfl⟩ := w_law hT
  have e0 : em [] [] (hS ((List.range L).map fun j => (xs j).toInt)) = eH0 L xs := by
    rw [em_hS, eH0_S]
    simp
  rw [e0] at h1
  have hz := z0_le
  refine ⟨n, _, h1, ?_, ?_⟩
  · rw [em_len hp_8, hp_len, g2]
    show 158 + 3000 + 1 ≤ _
    omega
  · rw [eSz_em, z2]
    have h64 : zs [((104, lgs L') : eC)] = 64 := by
      show (lgs L').length + 0 = 64
      rw [lgs_len, hl]
    rw [h64]
    generalize z0 = z at hz ⊢
    omega
/-! the owed walk -/
theorem whole_start {p : Program} {e : Env} {s : State} {m : MethodId} {below : List Frame} {meth : Method} {c : Code} (l : Launch) (hflags : l.flags = flags0) {b L : Nat} {xs : Nat → Int32} (hL : L ≤ 260) (C0 : lw_At p s m meth c b L xs) : W p l e room_1 s m #[Value.ref b] below meth c s.heap [] 0 0 (lw_Z below #[Value.ref b] s) (entryFrame m ([Value.ref b] : List Value).toArray 10) :=
  e_start l C0 (e_run hL)
