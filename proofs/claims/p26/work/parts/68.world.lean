/-! the two objects against each other -/
def Sok (F : eRow) : Prop := St F ∧ Ct F ∧ Od F ∧ F 0 ≤ 99999
theorem Sok_row {F G : eRow} (h : Sok F) (e : ∀ j, j < 111 → G j = F j) : Sok G := by
  obtain ⟨h1, h2, h3, h4⟩ := h
  refine ⟨St_row h1 e, Ct_row h2 e, ⟨?_, Srt_of h3.2 (St_b h1).1 (fun j _ _ => e j (by omega))⟩, ?_⟩
  · rw [e 45 (by omega), e 46 (by omega)]; exact h3.1
  · rw [e 0 (by omega)]; exact h4
/-- the class's object: the row F, the n slices of P, the snapshot T if k is 1, the text X of len signs -/
def CW (D : eD) (F P T X : eRow) (n k len : Int) : Prop := Rel D 9 F ∧ HiR D P n ∧ (D 8 7 = k ∧ (k = 1 → Rel D 29 T)) ∧ (D 152 1 = len ∧ ∀ i : Nat, (i : Int) < len → D 153 i = X i) ∧ NoA D
def RW (F P T X : eRow) (n k len : Int) : Prop := Sok F ∧ ((0 ≤ n ∧ n ≤ 4) ∧ ∀ i, 0 ≤ i → i < n → Sok (slc P i)) ∧ (k = 0 ∨ (k = 1 ∧ Sok T)) ∧ ((0 ≤ len ∧ len ≤ 60) ∧ ∀ j, 0 ≤ X j ∧ X j < 65536)
def Wd (D : eD) : Prop := CW D (D 159) (D 161) (D 162) (D 163) (D 158 3) (D 158 5) (D 158 7) ∧ RW (D 159) (D 161) (D 162) (D 163) (D 158 3) (D 158 5) (D 158 7)
def nxN (n : Int) : Int := if n = 4 then 4 else n + 1
theorem HiR_cg {D E : eD} {P : eRow} {n : Int} (h : HiR D P n) (e : ∀ K, 70 ≤ K → K ≤ 151 → E K = D K) : HiR E P n := by
  obtain ⟨h1, h2, h3, h4⟩ := h
  refine ⟨by rw [e 70 (by omega) (by omega)]; exact h1, by rw [e 70 (by omega) (by omega)]; exact h2, h3, fun i i0 i1 => ?_⟩
  obtain ⟨_, v1, v2⟩ := @rg_tg (D 70 2 + i)
  rw [e 70 (by omega) (by omega)]
  exact Rel_cg (h4 i i0 i1) (fun K _ _ => e K (by omega) (by omega))
theorem NoA_cg {D E : eD} (h : NoA D) (e : ∀ K, K < 158 → E K = D K) : NoA E := by
  intro b hb
  have := tg0_cases b (tg_lt (by omega)) hb
  have z := h b hb
  unfold NoL at z ⊢
  rw [e _ (by omega)]; exact z
theorem CW_cg {D E : eD} {F P T X : eRow} {n k len : Int} (h : CW D F P T X n k len) (e : ∀ K, K < 158 → E K = D K) : CW E F P T X n k len := by
  obtain ⟨h1, h2, h3, h4, h5⟩ := h
  refine ⟨Rel_cg h1 (fun K _ _ => e K (by omega)), HiR_cg h2 (fun K _ _ => e K (by omega)), ⟨by rw [e 8 (by omega)]; exact h3.1, fun q => Rel_cg (h3.2 q) (fun K _ _ => e K (by omega))⟩, ⟨by rw [e 152 (by omega)]; exact h4.1, fun i hi => by rw [e 153 (by omega)]; exact h4.2 i hi⟩, NoA_cg h5 e⟩
/-- the beacon alone changes -/
theorem CW_b {D E : eD} {F G P T X : eRow} {n k len : Int} (h : CW D F P T X n k len) (hR : Rel E 9 G) (e : ∀ K, (K < 9 ∨ 9 + 19 < K) → E K = D K) : CW E G P T X n k len := by
  obtain ⟨h1, h2, h3, h4, h5⟩ := h
  refine ⟨hR, HiR_cg h2 (fun K _ _ => e K (by omega)), ⟨by rw [e 8 (by omega)]; exact h3.1, fun q => Rel_cg (h3.2 q) (fun K _ _ => e K (by omega))⟩, ⟨by rw [e 152 (by omega)]; exact h4.1, fun i hi => by rw [e 153 (by omega)]; exact h4.2 i hi⟩, NoA_fr h5 (by rfl) hR (fun K hK _ => e K hK)⟩
theorem RW_rec {F G P T X : eRow} {n k len : Int} (h : RW F P T X n k len) (hG : Sok G) : RW G (recP P F n) T X (nxN n) k len := by
  obtain ⟨h1, ⟨h2, h3⟩, h4, h5⟩ := h
  unfold nxN
  refine ⟨hG, ⟨by split <;> omega, fun i i0 i1 => ?_⟩, h4, h5⟩
  by_cases q : n = 4
  · subst q
    rw [if_pos rfl] at i1
    by_cases q3 : i = 3
    · subst q3
      exact Sok_row h1 slc_rec4.1
    · exact Sok_row (h3 (i + 1) (by omega) (by omega)) (fun j hj => slc_rec4.2 i i0 (by omega) j hj)
  · rw [if_neg q] at i1
    by_cases q3 : i = n
    · subst q3
      exact Sok_row h1 (slc_rec (by omega) (by omega)).1
    · exact Sok_row (h3 i i0 (by omega)) (fun j hj => (slc_rec (by omega) (by omega)).2 i i0 (by omega) j hj)
/-- after an act: nothing, or recorded and then G -/
def Af (D : eD) (F P T X : eRow) (n k len : Int) (o : Option eRow) : Prop := match o with
  | none => CW D F P T X n k len
  | some G => CW D G (recP P F n) T X (nxN n) k len
def mAf (D : eD) (o : Option eRow) : eD := match o with
  | none => D
  | some G => setA (recD D) 159 G
section SPEC68
variable {S : List Int} {D E : eD} {h : eH} {Q : Option eV → eH → Prop} {F G P T X : eRow} {n k len : Int}
theorem cRec (hS : S.length ≤ 2048) (hC : CW D F P T X n k len) (hW : RW F P T X n k len) :
    ∃ D1 : eD, CW D1 F (recP P F n) T X (nxN n) k len ∧ (∀ K, (K < 70 ∨ K = 71 ∨ 151 < K) → D1 K = D K) ∧ ∀ Q, (wp 20 0 [.inr (.inl 70), .inr (.inl 9), .inr (.inl 0)] [] (hp S D) Q ↔ Q none (hp S D1)) := by
  obtain ⟨h1, h2, h3, h4, h5⟩ := hC
  obtain ⟨D1, i1, i2, i3, i4⟩ := c20 (S := S) hS h2 (fun i i0 i1 => (hW.2.1.2 i i0 i1).1) h1 hW.1.1 h5
  exact ⟨D1, ⟨Rel_cg h1 (fun K _ _ => i2 K (by omega)), i1, ⟨by rw [i2 8 (by omega)]; exact h3.1, fun q => Rel_cg (h3.2 q) (fun K _ _ => i2 K (by omega))⟩, ⟨by rw [i2 152 (by omega)]; exact h4.1, fun i hi => by rw [i2 153 (by omega)]; exact h4.2 i hi⟩, i3⟩, i2, i4⟩
theorem W_mAf {o : Option eRow} (hA : Af D F P T X n k len o) (hW : RW F P T X n k len) (ho : ∀ G, o = some G → Sok G) (e0 : D 159 = F) (e1 : D 161 = P) (e2 : D 162 = T) (e3 : D 163 = X) (e4 : D 158 3 = n) (e5 : D 158 5 = k) (e6 : D 158 7 = len) : Wd (mAf D o) := by
  cases o with
  | none =>
    unfold Wd mAf
    dsimp only
    rw [e0, e1, e2, e3, e4, e5, e6]
    exact ⟨hA, hW⟩
  | some G =>
    have q0 : mAf D (some G) 159 = G := setA_eq
    have q1 : mAf D (some G) 161 = recP P F n := by
      unfold mAf recD
      dsimp only
      rw [setA_ne (by decide), setA_eq, e0, e1, e4]
    have q2 : mAf D (some G) 162 = T := by
      unfold mAf recD
      dsimp only
      rw [setA_ne (by decide), setA_ne (by decide), setA_ne (by decide), e2]
    have q3 : mAf D (some G) 163 = X := by
      unfold mAf recD
      dsimp only
      rw [setA_ne (by decide), setA_ne (by decide), setA_ne (by decide), e3]
    have q8 : mAf D (some G) 158 = fu (D 158) 3 (nxN n) := by
      unfold mAf recD nxN
      dsimp only
      rw [setA_ne (by decide), setA_ne (by decide), setA_eq, e4]
    have q4 : mAf D (some G) 158 3 = nxN n := by rw [q8, fu_eq]
    have q5 : mAf D (some G) 158 5 = k := by rw [q8, fu_ne (by decide), e5]
    have q6 : mAf D (some G) 158 7 = len := by rw [q8, fu_ne (by decide), e6]
    unfold Wd
    rw [q0, q1, q2, q3, q4, q5, q6]
    refine ⟨CW_cg hA (fun K hK => ?_), RW_rec hW (ho G rfl)⟩
    unfold mAf recD
    dsimp only
    rw [setA_ne (by omega), setA_ne (by omega), setA_ne (by omega)]
/-- an act of the class: what it answers, what is held then -/
def Sa (S : List Int) (D : eD) (y : Nat) (ls : List eV) (o : Int × Option eRow) : Prop := ∃ D2 : eD, Wd D2 ∧ (∀ K, 158 ≤ K → D2 K = mAf D o.2 K) ∧ ∀ Q, (wp y 0 ls [] (hp S D) Q ↔ Q (some (.inl o.1)) (hp S D2))
/-- a question -/
def Sq (S : List Int) (D : eD) (y : Nat) (ls : List eV) (a : Int) : Prop := ∃ D2 : eD, Wd D2 ∧ (∀ K, 158 ≤ K → D2 K = D K) ∧ ∀ Q, (wp y 0 ls [] (hp S D) Q ↔ Q (some (.inl a)) (hp S D2))
theorem hp_mAf {S : List Int} {D : eD} {o : Option eRow} : hp S (mAf D o) = hp S D := by
  refine hp_ext fun k j h => ?_
  have hk := h.2.1
  unfold mAf recD
  split
  · rfl
  · rw [setA_ne (by omega), setA_ne (by omega), setA_ne (by omega)]
theorem mAf_cg {D D1 : eD} {o : Option eRow} (e : ∀ K, 158 ≤ K → D1 K = D K) : ∀ K, 158 ≤ K → mAf D1 o K = mAf D o K := by
  intro K hK
  unfold mAf recD
  split
  · exact e K hK
  · unfold setA
    rw [e K hK, e 158 (by omega), e 159 (by omega), e 161 (by omega)]
/-- an act of both -/
theorem act_stp {y : Nat} {ls : List eV} {o : Int × Option eRow} (hW : Wd D)
    (hc : ∃ D1 : eD, Af D1 (D 159) (D 161) (D 162) (D 163) (D 158 3) (D 158 5) (D 158 7) o.2 ∧ (∀ K, 158 ≤ K → D1 K = D K) ∧ ∀ Q, (wp y 0 ls [] (hp S D) Q ↔ Q (some (.inl o.1)) (hp S D1)))
    (ho : ∀ G, o.2 = some G → Sok G) : Sa S D y ls o := by
  obtain ⟨D1, i1, i2, i3⟩ := hc
  refine ⟨mAf D1 o.2, W_mAf i1 hW.2 ho (i2 159 (by omega)) (i2 161 (by omega)) (i2 162 (by omega)) (i2 163 (by omega)) (by rw [i2 158 (by omega)]) (by rw [i2 158 (by omega)]) (by rw [i2 158 (by omega)]), mAf_cg i2, fun Q => ?_⟩
  rw [hp_mAf]
  exact i3 Q
theorem ask_stp {y : Nat} {ls : List eV} {a : Int} (hW : Wd D)
    (hc : ∃ D1 : eD, (∀ K, (K < 49 ∨ K = 70 ∨ K = 71 ∨ (71 < K ∧ K < 154) ∨ 158 ≤ K) → D1 K = D K) ∧ NoA D1 ∧ ∀ Q, (wp y 0 ls [] (hp S D) Q ↔ Q (some (.inl a)) (hp S D1))) : Sq S D y ls a := by
  obtain ⟨D2, e, i2, i3⟩ := hc
  refine ⟨D2, ?_, fun K hK => e K (by omega), i3⟩
  unfold Wd
  rw [e 159 (by omega), e 161 (by omega), e 162 (by omega), e 163 (by omega), e 158 (by omega)]
  refine ⟨?_, hW.2⟩
  obtain ⟨h1, h2, h3, h4, h5⟩ := hW.1
  exact ⟨Rel_cg h1 (fun K _ _ => e K (by omega)), HiR_cg h2 (fun K _ _ => e K (by omega)), ⟨by rw [e 8 (by omega)]; exact h3.1, fun q => Rel_cg (h3.2 q) (fun K _ _ => e K (by omega))⟩, ⟨by rw [e 152 (by omega)]; exact h4.1, fun i hi => by rw [e 153 (by omega)]; exact h4.2 i hi⟩, i2⟩
end SPEC68
