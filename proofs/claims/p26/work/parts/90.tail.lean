/-! the law's end: keep, two acts more, refusals, undo to the last, restore -/
def Ta (D : eD) (L : List Int64) (c : Int) : Prop := Wd D ∧ cu (D 159) = D 159 ∧ sn (D 159) = L.getD c.toNat 0 ∧ (∀ i, 0 ≤ i → i < D 158 3 → sn (cu (slc (D 161) (D 158 3 - 1 - i))) = L.getD (c - 1 - i).toNat 0) ∧ D 158 3 ≤ c ∧ 0 ≤ c
/-- the snapshot -/
def Sn (D : eD) (R : eRow) : Prop := D 158 5 = 1 ∧ cu (D 162) = R
theorem Ta_cg {D : eD} {L L2 : List Int64} {c : Int} (h : Ta D L c) (e : ∀ j : Nat, j ≤ c.toNat → L2.getD j 0 = L.getD j 0) : Ta D L2 c := by
  obtain ⟨h1, h2, h3, h4, h5, h6⟩ := h
  refine ⟨h1, h2, by rw [e _ (Nat.le_refl _)]; exact h3, fun i i0 i1 => ?_, h5, h6⟩
  rw [e _ (by omega)]
  exact h4 i i0 i1
theorem Ta_eq8 {D D2 : eD} {L : List Int64} {c : Int} (h : Ta D L c) (hW : Wd D2) (e : Eq8 D2 D) : Ta D2 L c := by
  obtain ⟨h1, h2, h3, h4, h5, h6⟩ := h
  unfold Ta
  rw [e 159 (by decide), e 158 (by decide), e 161 (by decide)]
  exact ⟨hW, h2, h3, h4, h5, h6⟩
theorem Ta_rec {D D2 : eD} {H : eRow} {L L2 : List Int64} {c : Int} (h : Ta D L c) (hW : Wd D2) (q9 : D2 159 = cu H) (q1 : D2 161 = recP (D 161) (D 159) (D 158 3)) (q8 : D2 158 = fu (D 158) 3 (nxN (D 158 3))) (e : ∀ j : Nat, j ≤ c.toNat → L2.getD j 0 = L.getD j 0) (hL : L2.getD (c + 1).toNat 0 = sn (D2 159)) : Ta D2 L2 (c + 1) := by
  obtain ⟨h1, h2, h3, h4, h5, h6⟩ := h
  have n3 : D2 158 3 = nxN (D 158 3) := by rw [q8, fu_eq]
  refine ⟨hW, by rw [q9, cu_cu], hL.symm, fun i i0 i1 => ?_, ?_, by omega⟩
  · rw [n3] at i1 ⊢
    rw [q1, e _ (by omega)]
    by_cases q4 : D 158 3 = 4
    · have e4 : nxN (D 158 3) = 4 := by unfold nxN; rw [if_pos q4]
      rw [e4] at i1 ⊢
      rw [q4]
      by_cases i0' : i = 0
      · subst i0'
        rw [show (4 : Int) - 1 - 0 = 3 from rfl, cu_eq (slc_rec4 (P := D 161) (F := D 159)).1, h2, show c + 1 - 1 - 0 = c by omega, h3]
      · have z := h4 (i - 1) (by omega) (by omega)
        rw [cu_eq ((slc_rec4 (P := D 161) (F := D 159)).2 (4 - 1 - i) (by omega) (by omega)), show (4 : Int) - 1 - i + 1 = D 158 3 - 1 - (i - 1) by omega, z]
        congr 2
        omega
    · have e4 : nxN (D 158 3) = D 158 3 + 1 := by unfold nxN; rw [if_neg q4]
      have hn := h1.2.2.1.1
      rw [e4] at i1 ⊢
      obtain ⟨u1, u2⟩ := slc_rec (P := D 161) (F := D 159) (n := D 158 3) (by omega) (by omega)
      by_cases i0' : i = 0
      · subst i0'
        rw [show D 158 3 + 1 - 1 - 0 = D 158 3 by omega, cu_eq u1, h2, show c + 1 - 1 - 0 = c by omega, h3]
      · have z := h4 (i - 1) (by omega) (by omega)
        rw [cu_eq (u2 (D 158 3 + 1 - 1 - i) (by omega) (by omega)), show D 158 3 + 1 - 1 - i = D 158 3 - 1 - (i - 1) by omega, z]
        congr 2
        omega
  · rw [n3]
    unfold nxN
    split <;> omega
section SPEC90
variable {S : List Int} {D E : eD} {G W : eH} {Q : Option eV → eH → Prop} {a s w v p t b n k x u kind soc c T tk : Int} {L : List Int64} {l5 l6 l7 l8 l9 : eV} {R : eRow}
/-- undone -/
theorem u_pos (hS : S.length ≤ 2048) (h : Ta D L c) (hn : 0 < D 158 3) : ∃ D2, Ta D2 L (c - 1) ∧ D2 158 3 = D 158 3 - 1 ∧ D2 158 5 = D 158 5 ∧ D2 162 = D 162 ∧ ∀ Q, (wp 79 0 [.inr (.inl (8 + G.length))] [] (em G W (hp S D)) Q ↔ Q (some (.inl (D 158 3 - 1))) (em G W (hp S D2))) := by
  obtain ⟨D1, i1, i2, i3⟩ := s_undo (S := S) hS h.1
  obtain ⟨h1, h2, h3, h4, h5, h6⟩ := h
  have n0 : ¬ D 158 3 = 0 := by omega
  simp only [if_neg n0] at i2 i3
  have q9 : D1 159 = cpA (D 159) (D 161) 0 (111 * (D 158 3 - 1)).toNat 111 := (i2 159 (by decide)).trans setA_eq
  have q8 : D1 158 = fu (D 158) 3 (D 158 3 - 1) := (i2 158 (by decide)).trans ((setA_ne (by decide)).trans setA_eq)
  have q1 : D1 161 = D 161 := (i2 161 (by decide)).trans ((setA_ne (by decide)).trans (setA_ne (by decide)))
  have q2 : D1 162 = D 162 := (i2 162 (by decide)).trans ((setA_ne (by decide)).trans (setA_ne (by decide)))
  have er : cu (D1 159) = cu (slc (D 161) (D 158 3 - 1)) := by
    rw [q9]
    refine cu_eq fun j hj => ?_
    unfold cpA slc
    rw [if_pos (by omega)]
    exact congrArg _ (by omega)
  have m9 : nm D1 159 = cu (slc (D 161) (D 158 3 - 1)) := nm_159.trans er
  have m8 : nm D1 158 = fu (D 158) 3 (D 158 3 - 1) := (nm_ne (by decide)).trans q8
  have m3 : nm D1 158 3 = D 158 3 - 1 := by rw [m8, fu_eq]
  refine ⟨nm D1, ⟨nm_Wd i1, by rw [m9, cu_cu], ?_, fun i i0 i1 => ?_, by omega, by omega⟩, m3, by rw [m8, fu_ne (by decide)], (nm_ne (by decide)).trans q2, fun Q => ?_⟩
  · rw [m9]
    have z := h4 0 (by decide) hn
    rw [show D 158 3 - 1 - 0 = D 158 3 - 1 by omega, show c - 1 - 0 = c - 1 by omega] at z
    exact z
  · rw [m3] at i1 ⊢
    rw [nm_ne (by decide), q1]
    have z := h4 (i + 1) (by omega) (by omega)
    rw [show D 158 3 - 1 - (i + 1) = D 158 3 - 1 - 1 - i by omega, show c - 1 - (i + 1) = c - 1 - 1 - i by omega] at z
    exact z
  · rw [nm_hp]
    exact wp_em hp_8 (by rw [hp_len, hp_len]) i3 Q
theorem u_zero (hS : S.length ≤ 2048) (h : Wd D) (hn : D 158 3 = 0) : ∃ D2, Wd D2 ∧ Eq8 D2 D ∧ ∀ Q, (wp 79 0 [.inr (.inl (8 + G.length))] [] (em G W (hp S D)) Q ↔ Q (some (.inl (-5))) (em G W (hp S D2))) := by
  obtain ⟨D1, i1, i2, i3⟩ := s_undo (S := S) hS h
  simp only [if_pos hn] at i2 i3
  exact ⟨D1, i1, i2, fun Q => wp_em hp_8 (by rw [hp_len, hp_len]) i3 Q⟩
theorem l_keep (hS : S.length ≤ 2048) (h : Wd D) (hc : cu (D 159) = D 159) : ∃ D2, Wd D2 ∧ D2 159 = D 159 ∧ D2 161 = D 161 ∧ D2 158 3 = D 158 3 ∧ Sn D2 (D 159) ∧ ∀ Q, (wp 80 0 [.inr (.inl (8 + G.length))] [] (em G W (hp S D)) Q ↔ Q (some (.inl (D 159 0))) (em G W (hp S D2))) := by
  obtain ⟨D1, i1, i2, i3⟩ := s_keep (S := S) hS h
  have q8 : D1 158 = fu (D 158) 5 1 := (i2 158 (by decide)).trans setA_eq
  have q2 : D1 162 = cpA (D 162) (D 159) 0 0 111 := (i2 162 (by decide)).trans ((setA_ne (by decide)).trans setA_eq)
  refine ⟨D1, i1, (i2 159 (by decide)).trans ((setA_ne (by decide)).trans (setA_ne (by decide))), (i2 161 (by decide)).trans ((setA_ne (by decide)).trans (setA_ne (by decide))), by rw [q8, fu_ne (by decide)], ⟨by rw [q8, fu_eq], ?_⟩, fun Q => wp_em hp_8 (by rw [hp_len, hp_len]) i3 Q⟩
  rw [q2, cu_eq (fun j hj => cpA_at hj), hc]
/-- the loop of undo -/
theorem ul_all (hS : S.length ≤ 2048) (c9 : c ≤ 24) (hl : L.length = 64) (m : Nat) : ∀ (k : Int) (D : eD), D 158 3 = m → k + m ≤ 4 → 0 ≤ k → k ≤ c → Ta D L (c - k) → Sn D R →
    ∃ (D2 : eD) (k2 : Int), Wd D2 ∧ D2 158 3 = 0 ∧ Sn D2 R ∧ ∀ Q, (wp 111 444 [.inr (.inl 7), .inr (.inl (8 + G.length)), .inr (.inl (158 + G.length)), .inl c, .inl tk, .inl k, l6, l7, l8, l9] [] (em G [(104, lgs L)] (hp S D)) Q ↔ wp 111 488 [.inr (.inl 7), .inr (.inl (8 + G.length)), .inr (.inl (158 + G.length)), .inl c, .inl tk, .inl k2, l6, l7, l8, l9] [] (em G [(104, lgs L)] (hp S D2)) Q) := by
  induction m with
  | zero =>
    intro k D hm hk k0 kc hT hR
    have c1 : m161 D 12 = D 158 3 := rfl
    rw [hm] at c1
    refine ⟨D, k, hT.1, hm, hR, fun Q => ?_⟩
    rw [s111_444 (by omega)]
    simp (disch := first | assumption | omega | decide | exact b2i_01 _ | (unfold lx; omega)) only [s111_445, s111_447, s111_450, kont_some, kont_none, w32_of, if_true, if_false, tdv, tmd, setA_eq, up_setA, rd_hi, Int.reduceToNat, if_neg (show ¬ (1 : Int) = 0 by decide), l_count hS hT.1, c1, Int.lt_irrefl, Int.natCast_zero, Int.ofNat_eq_natCast]
  | succ m ih =>
    intro k D hm hk k0 kc hT hR
    have c1 : m161 D 12 = D 158 3 := rfl
    obtain ⟨D2, i1, i2, i3, i4, i5⟩ := u_pos (G := G) (W := [(104, lgs L)]) hS hT (by omega)
    obtain ⟨D3, k3, j1, j2, j3, j4⟩ := ih (k + 1) D2 (by omega) (by omega) (by omega) (by have := hT.2.2.2.2.1; omega) (by rw [show c - (k + 1) = c - k - 1 by omega]; exact i1) ⟨i3.trans hR.1, by rw [i4]; exact hR.2⟩
    have hp3 : 0 < D 158 3 := by omega
    have hk4 : ¬ 4 < k := by omega
    have hm1 : ¬ D 158 3 - 1 < 0 := by omega
    refine ⟨D3, k3, j1, j2, j3, fun Q => ?_⟩
    rw [← j4 Q, s111_444 (by omega)]
    simp (disch := first | assumption | omega | decide | exact b2i_01 _ | (unfold lx; omega)) only [s111_445, s111_447, s111_450, s111_453, s111_455, s111_456, s111_459, s111_460, s111_463, s111_464, s111_465, s111_467, s111_468, s111_469, s111_470, s111_473, s111_474, s111_477, s111_480, s111_481, s111_482, s111_485, kont_some, kont_none, w32_of, if_true, if_false, tdv, tmd, setA_eq, up_setA, rd_hi, Int.reduceToNat, if_neg (show ¬ (1 : Int) = 0 by decide), l_count hS hT.1, l_seen hS hT.1, c1, if_pos hp3, if_neg hk4, hT.2.2.1, lc_0, i5, if_neg hm1]
theorem tl_all (hS : S.length ≤ 2048) (hI : Iv D L c 4800) (c9 : c ≤ 24) (hl : L.length = 64) :
    wp 111 355 [.inr (.inl 7), .inr (.inl (8 + G.length)), .inr (.inl (158 + G.length)), .inl c, .inl k, l5, l6, l7, l8, l9] [] (em G [(104, lgs L)] (hp S D)) (fun r h' => r = some (.inl 1) ∧ ∃ (D' : eD) (L' : List Int64), L'.length = 64 ∧ h' = em G [(104, lgs L')] (hp S D')) := by
  obtain ⟨g1, g2, g3, g4, g5, g6, g7⟩ := hI
  obtain ⟨hI2, hL2⟩ := Iv_set (w := sn (D 159)) ⟨g1, g2, g3, g4, g5, g6, g7⟩ (by omega)
  have hl2 : (L.set c.toNat (sn (D 159))).length = 64 := by rw [List.length_set]; exact hl
  generalize hL3 : L.set c.toNat (sn (D 159)) = L3 at hI2 hL2 hl2
  obtain ⟨f1, f2, f3, f4, f5, f6, f7⟩ := hI2
  obtain ⟨hs, hc, ho, h0⟩ := g1.2.1
  have b0 : 0 ≤ D 159 0 := hs.2.1.1
  have n4 : D 158 3 ≤ c := by rw [g3]; split <;> omega
  have nb := g1.2.2.1.1
  have t0 : m161 D 0 = D 159 0 := rfl
  -- keep
  obtain ⟨D1, k1, k2, k3, k4, k5, k6⟩ := l_keep (G := G) (W := [(104, lgs L3)]) hS g1 g2
  have T1 : Ta D1 L3 c := ⟨k1, by rw [k2]; exact g2, by rw [k2, hL2], fun i i0 i1 => by rw [k3, k4]; exact f4 i i0 (by omega), by omega, g7⟩
  -- pass
  have o7 : o141 (D1 159) 7 = (drkF 7 (D1 159), some (itF 1 7 (D1 159))) := by
    unfold o141
    rw [if_pos (by decide), if_neg (by rw [k2]; omega)]
    rfl
  obtain ⟨D2, p1, p2, pS, p3, p4, p5, p6⟩ := cl_some (G := G) (W := [(104, lgs L3)]) (s_pass (v := 7) hS k1) (by rw [o7])
  have p6' : ∀ Q, (wp 76 0 [.inr (.inl (8 + G.length)), .inl 7, .inr (.inl 0), .inr (.inl 0)] [] (em G [(104, lgs L3)] (hp S D1)) Q ↔ Q (some (.inl (o141 (D1 159) 7).1)) (em G [(104, lgs L3)] (hp S D2))) := p6
  have d7 : ¬ (o141 (D1 159) 7).1 < 0 := by rw [o7]; have := (drk_b 7 (D1 159)).1; show ¬ drkF 7 (D1 159) < 0; omega
  generalize (o141 (D1 159) 7).1 = r7 at p6' d7
  have hs1 : St (D1 159) := by rw [k2]; exact hs
  have hc1 : Ct (D1 159) := by rw [k2]; exact hc
  have e21 : D2 159 1 = D 159 1 := by rw [p2, cu_lt (by decide), it_lo 7 _ hs1 hc1 (by rw [k2]; omega) 1 (by decide) (by decide), k2]
  have e22 : D2 159 2 = D 159 2 := by rw [p2, cu_lt (by decide), it_lo 7 _ hs1 hc1 (by rw [k2]; omega) 2 (by decide) (by decide), k2]
  have T2 : Ta D2 (L3.set (c + 1).toNat (sn (D2 159))) (c + 1) := by
    refine Ta_rec T1 p1 p2 p3 p5 (fun j hj => ?_) ?_
    · rw [List.getD_eq_getElem?_getD, List.getD_eq_getElem?_getD, List.getElem?_set_ne (by omega)]
    · rw [List.getD_eq_getElem?_getD, List.getElem?_set_self (by omega)]
      rfl
  -- setNight
  have a1 : 0 ≤ D 159 1 ∧ D 159 1 ≤ 47 := hs.2.2.1
  have a2 : 0 ≤ D 159 2 ∧ D 159 2 ≤ 47 := hs.2.2.2.1
  have w6 : m153 D2 6 = D 159 1 := by rw [← e21]; rfl
  have w7 : m153 D2 7 = D 159 2 := by rw [← e22]; rfl
  generalize ha : (D 159 1 + 1) % 48 = na
  generalize hb : (D 159 2 + 1) % 48 = nb'
  have oN : o131 (D2 159) na nb' = ((nb' - na + 48) % 48, some (fu (fu (D2 159) 1 na) 2 nb')) := by
    unfold o131
    rw [if_pos (by omega), if_pos (by omega), if_neg (by omega), if_neg (by rw [e21]; omega)]
  obtain ⟨D3, q1, q2, qS, q3, q4, q5, q6⟩ := cl_some (G := G) (W := [(104, lgs L3)]) (s_setNight (w := na) (v := nb') hS p1) (by rw [oN])
  have q6' : ∀ Q, (wp 69 0 [.inr (.inl (8 + G.length)), .inl na, .inl nb'] [] (em G [(104, lgs L3)] (hp S D2)) Q ↔ Q (some (.inl ((nb' - na + 48) % 48))) (em G [(104, lgs L3)] (hp S D3))) := by
    have z := q6
    rw [oN] at z
    exact z
  have dN : ¬ (nb' - na + 48) % 48 < 1 := by omega
  have h12 : ¬ D3 159 1 = D3 159 2 := by
    rw [q2, cu_lt (by decide), cu_lt (by decide), fu_ne (by decide), fu_eq, fu_eq]
    omega
  have T3 : Ta D3 ((L3.set (c + 1).toNat (sn (D2 159))).set (c + 2).toNat (sn (D3 159))) (c + 2) := by
    have := Ta_rec (L2 := (L3.set (c + 1).toNat (sn (D2 159))).set (c + 2).toNat (sn (D3 159))) T2 q1 q2 q3 q5 (fun j hj => ?_) ?_
    · rw [show c + 1 + 1 = c + 2 by omega] at this
      exact this
    · rw [List.getD_eq_getElem?_getD, List.getD_eq_getElem?_getD, List.getElem?_set_ne (by omega)]
    · rw [show c + 1 + 1 = c + 2 by omega, List.getD_eq_getElem?_getD, List.getElem?_set_self (by rw [List.length_set]; omega)]
      rfl
  -- refused, undone twice
  obtain ⟨D4, r1, r2, r3⟩ := l_refused (G := G) (W := [(104, lgs L3)]) hS q1 h12
  have T4 := Ta_eq8 T3 r1 r2
  have n2 : D2 158 3 = nxN (D 158 3) := by rw [p5, fu_eq, k4]
  have n3 : D3 158 3 = nxN (nxN (D 158 3)) := by rw [q5, fu_eq, n2]
  have n4' : D4 158 3 = nxN (nxN (D 158 3)) := by rw [r2 158 (by decide)]; exact n3
  have n2b : 2 ≤ nxN (nxN (D 158 3)) ∧ nxN (nxN (D 158 3)) ≤ 4 := by unfold nxN; split <;> split <;> omega
  obtain ⟨D5, u1, u2, u3, u4, u5⟩ := u_pos (G := G) (W := [(104, lgs L3)]) hS T4 (by omega)
  obtain ⟨D6, v1, v2, v3, v4, v5⟩ := u_pos (G := G) (W := [(104, lgs L3)]) hS u1 (by omega)
  have T6 : Ta D6 L3 c := by
    rw [show c + 2 - 1 - 1 = c by omega] at v1
    refine Ta_cg v1 (fun j hj => ?_)
    rw [List.getD_eq_getElem?_getD, List.getD_eq_getElem?_getD, List.getElem?_set_ne (by omega), List.getElem?_set_ne (by omega)]
  have S6 : Sn D6 (D 159) := by
    refine ⟨?_, ?_⟩
    · rw [v3, u3, r2 158 (by decide), q5, fu_ne (by decide), p5, fu_ne (by decide)]
      exact k5.1
    · rw [v4, u4, r2 162 (by decide), q4, p4]
      exact k5.2
  have x1 : ¬ D4 158 3 - 1 < 1 := by omega
  have x2 : ¬ D5 158 3 - 1 < 0 := by omega
  obtain ⟨D7, m7, y1, y2, y3, y4⟩ := ul_all (G := G) (L := L3) (c := c) (R := D 159) (tk := D 159 0) (l6 := l6) (l7 := l7) (l8 := l8) (l9 := l9) hS c9 hl2 (D6 158 3).toNat 0 D6 (by omega) (by omega) (by decide) (by omega) (by rw [Int.sub_zero]; exact T6) S6
  -- the end
  obtain ⟨D8, z1, z2, z3⟩ := u_zero (G := G) (W := [(104, lgs L3)]) hS y1 y2
  have k8 : D8 158 5 = 1 := by rw [z2 158 (by decide)]; exact y3.1
  have c8 : cu (D8 162) = D 159 := by rw [z2 162 (by decide)]; exact y3.2
  have oR : o105 (D8 159) (D8 162) (D8 158 5) = (D8 162 0, some (cpA (D8 159) (D8 162) 0 0 111)) := by
    unfold o105
    rw [if_neg (by rw [k8]; decide)]
  obtain ⟨D9, s1, s2, sS, s3, s4, s5, s6⟩ := cl_some (G := G) (W := [(104, lgs L3)]) (s_restore hS z1) (by rw [oR])
  have tk8 : D8 162 0 = D 159 0 := by rw [← c8, cu_lt (by decide)]
  have s6' : ∀ Q, (wp 81 0 [.inr (.inl (8 + G.length))] [] (em G [(104, lgs L3)] (hp S D8)) Q ↔ Q (some (.inl (D 159 0))) (em G [(104, lgs L3)] (hp S D9))) := by
    have z := s6
    rw [oR] at z
    rw [← tk8]
    exact z
  have e9 : D9 159 = D 159 := by rw [s2, cu_eq (fun j hj => cpA_at hj), c8]
  have e93 : m161 D9 12 = 1 := by
    show D9 158 3 = 1
    rw [s5, fu_eq, z2 158 (by decide), y2]
    rfl
  have A1 : ∀ Q, (wp 111 355 [.inr (.inl 7), .inr (.inl (8 + G.length)), .inr (.inl (158 + G.length)), .inl c, .inl k, l5, l6, l7, l8, l9] [] (em G [(104, lgs L)] (hp S D)) Q ↔ wp 111 378 [.inr (.inl 7), .inr (.inl (8 + G.length)), .inr (.inl (158 + G.length)), .inl c, .inl (D 159 0), l5, l6, l7, l8, l9] [] (em G [(104, lgs L3)] (hp S D1)) Q) := fun Q => by
    simp (disch := first | assumption | omega | decide | exact b2i_01 _ | (unfold lx; omega)) only [s111_355, s111_356, s111_357, s111_358, s111_361, s111_362, s111_363, s111_364, s111_367, s111_369, s111_370, s111_373, s111_375, kont_some, kont_none, w32_of, if_true, if_false, tdv, tmd, setA_eq, up_setA, rd_hi, Int.reduceToNat, if_neg (show ¬ (1 : Int) = 0 by decide), l_seen hS g1, hL3, l_count hS g1, t0, k6]
  have A2 : ∀ Q, (wp 111 378 [.inr (.inl 7), .inr (.inl (8 + G.length)), .inr (.inl (158 + G.length)), .inl c, .inl (D 159 0), l5, l6, l7, l8, l9] [] (em G [(104, lgs L3)] (hp S D1)) Q ↔ wp 111 417 [.inr (.inl 7), .inr (.inl (8 + G.length)), .inr (.inl (158 + G.length)), .inl c, .inl (D 159 0), l5, l6, l7, l8, l9] [] (em G [(104, lgs L3)] (hp S D3)) Q) := fun Q => by
    simp (disch := first | assumption | omega | decide | exact b2i_01 _ | (unfold lx; omega)) only [s111_378, s111_379, s111_381, s111_384, s111_387, s111_388, s111_389, s111_391, s111_394, s111_395, s111_396, s111_398, s111_399, s111_400, s111_402, s111_405, s111_406, s111_407, s111_409, s111_410, s111_413, s111_414, kont_some, kont_none, w32_of, if_true, if_false, tdv, tmd, setA_eq, up_setA, rd_hi, Int.reduceToNat, if_neg (show ¬ (1 : Int) = 0 by decide), p6', if_neg d7, l_wheel hS p1, w6, w7, ha, hb, q6', if_neg dN]
  have A3 : ∀ Q, (wp 111 417 [.inr (.inl 7), .inr (.inl (8 + G.length)), .inr (.inl (158 + G.length)), .inl c, .inl (D 159 0), l5, l6, l7, l8, l9] [] (em G [(104, lgs L3)] (hp S D3)) Q ↔ wp 111 444 [.inr (.inl 7), .inr (.inl (8 + G.length)), .inr (.inl (158 + G.length)), .inl c, .inl (D 159 0), .inl 0, l6, l7, l8, l9] [] (em G [(104, lgs L3)] (hp S D6)) Q) := fun Q => by
    simp (disch := first | assumption | omega | decide | exact b2i_01 _ | (unfold lx; omega)) only [s111_417, s111_418, s111_421, s111_424, s111_425, s111_428, s111_429, s111_432, s111_433, s111_436, s111_439, s111_440, s111_441, s111_442, kont_some, kont_none, w32_of, if_true, if_false, tdv, tmd, setA_eq, up_setA, rd_hi, Int.reduceToNat, if_neg (show ¬ (1 : Int) = 0 by decide), Int.reduceEq, r3, u5, if_neg x1, v5, if_neg x2]
  rw [A1, A2, A3, y4]
  simp (disch := first | assumption | omega | decide | exact b2i_01 _ | (unfold lx; omega)) only [s111_488, s111_489, s111_492, s111_494, s111_497, s111_498, s111_501, s111_503, s111_506, s111_507, s111_510, s111_511, s111_512, s111_513, s111_514, s111_517, s111_518, s111_520, s111_523, s111_524, s111_527, s111_528, s111_531, s111_532, kont_some, kont_none, w32_of, if_true, if_false, tdv, tmd, setA_eq, up_setA, rd_hi, Int.reduceToNat, if_neg (show ¬ (1 : Int) = 0 by decide), Int.reduceEq, z3, s6', l_seen hS s1, e9, hL2, lc_0, l_count hS s1, e93]
  exact ⟨trivial, D9, L3, hl2, rfl⟩
end SPEC90
