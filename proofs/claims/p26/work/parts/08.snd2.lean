/-! the instructions that read and write cells -/
theorem eFk_spec {o i : Nat} {q : Nat × Nat × Nat} (h : eFk o i = some q) : ∃ (C : String) (T : u_T) (N : Nat), vwCl[q.1]? = some (C, T, N) ∧ q.2.1 < N ∧ Cond.fieldLink (eR o) i C (T q.2.1).2.1 (T q.2.1).2.2.1 ∈ eWs ∧ (T q.2.1).1 = C ∧
    ((q.2.2 = 0 ∧ parseFieldDescriptor (T q.2.1).2.2.1 = some .int) ∨ (q.2.2 = 1 ∧ parseFieldDescriptor (T q.2.1).2.2.1 = some .boolean) ∨ (q.2.2 ≠ 0 ∧ q.2.2 ≠ 1 ∧ eRefTy (parseFieldDescriptor (T q.2.1).2.2.1) = true)) := by
  unfold eFk at h
  obtain ⟨e, he, rfl⟩ := Option.map_eq_some_iff.mp h
  have h1 := List.all_eq_true.mp eFl_ok e (List.mem_of_find?_eq_some he)
  have h2 := List.find?_some he
  simp only [Bool.and_eq_true, beq_iff_eq] at h2
  obtain ⟨h2, h3⟩ := h2
  subst h2; subst h3
  unfold eFchk at h1
  split at h1
  · next q hq =>
    obtain ⟨C, T, N⟩ := q
    simp only [Bool.and_eq_true, decide_eq_true_eq] at h1
    obtain ⟨⟨⟨a1, a2⟩, a3⟩, a4⟩ := h1
    refine ⟨C, T, N, hq, a1, eAt_of a2, a3, ?_⟩
    dsimp only
    split at a4
    · next z => exact Or.inl ⟨z, by simpa using a4⟩
    · next z =>
      split at a4
      · next z2 => exact Or.inr (Or.inl ⟨z2, by simpa using a4⟩)
      · next z2 => exact Or.inr (Or.inr ⟨z, z2, a4⟩)
  · cases h1
theorem eV_spec {ci : Nat} {C : String} {T : u_T} {N : Nat} (h : vwCl[ci]? = some (C, T, N)) : (∀ w ∈ u_ws C T N, w ∈ eWs) ∧ Cond.instantiable C N ∈ eWs ∧ Cond.initialized C ∈ eWs := by
  have h1 := List.all_eq_true.mp eV_ok _ (List.mem_of_getElem? h)
  unfold eVchk at h1
  simp only [Bool.and_eq_true, decide_eq_true_eq, List.all_eq_true] at h1
  obtain ⟨⟨⟨⟨a1, a2⟩, a3⟩, a4⟩, a5⟩ := h1
  exact ⟨fun w hw => List.mem_filter.mpr (a1 w hw), List.mem_filter.mpr ⟨a2, a4⟩, List.mem_filter.mpr ⟨a3, a5⟩⟩
theorem eV_ty {ci : Nat} {C : String} {T : u_T} {N : Nat} (h : vwCl[ci]? = some (C, T, N)) : (∃ ty0 : Nat → FieldType, ∀ k, k < N → parseFieldDescriptor (T k).2.2.1 = some (ty0 k)) ∧ (∀ a, a < N → ∀ b, b < N → a ≠ b → (T a).2.1 ≠ (T b).2.1) := by
  match ci, h with
  | 0, h => cases h; exact ⟨⟨tyX0, tyX0_ok⟩, nmX0⟩
  | 1, h => cases h; exact ⟨⟨tyX1, tyX1_ok⟩, nmX1⟩
  | 2, h => cases h; exact ⟨⟨tyX2, tyX2_ok⟩, nmX2⟩
  | 3, h => cases h; exact ⟨⟨tyX3, tyX3_ok⟩, nmX3⟩
  | 4, h => cases h; exact ⟨⟨tyX4, tyX4_ok⟩, nmX4⟩
  | 5, h => cases h; exact ⟨⟨tyX5, tyX5_ok⟩, nmX5⟩
  | 6, h => cases h; exact ⟨⟨tyX7, tyX7_ok⟩, nmX7⟩
  | 7, h => cases h; exact ⟨⟨tyX8, tyX8_ok⟩, nmX8⟩
  | n + 8, h => simp [vwCl] at h
def eTchk (q : vw_C) : Bool := (List.range q.2.2).all fun k => decide (parseFieldDescriptor (q.2.1 k).2.2.1 = some .int) || decide (parseFieldDescriptor (q.2.1 k).2.2.1 = some .boolean) || eRefTy (parseFieldDescriptor (q.2.1 k).2.2.1)
set_option maxRecDepth 100000 in
theorem eT_ok : vwCl.all eTchk = true := by decide +kernel
def eOchk (o : Nat) : Bool := match vwCl[eG o]? with
  | some q => decide (q.1 = eR o)
  | none => true
set_option maxRecDepth 100000 in
theorem eO_ok : (List.range 13).all eOchk = true := by decide +kernel
theorem eAd_lo (g : eGt) {k : Nat} (h : k < 8) : eAd g k = g.2.1 k := by simp [eAd, h]
theorem eAd_hi (g : eGt) {k : Nat} (h : 8 ≤ k) : eAd g k = g.1 + (k - 8) := by simp [eAd, Nat.not_lt.mpr h]
theorem eTr_r (g : eGt) {a : Nat} (h : a ≠ 0) : eTr g (.inr (.inl a)) = .ref (eAd g a) := by simp [eTr, h]
theorem eTr_rf (g : eGt) (a : Nat) : va_rf (eRo g (.inr (.inl a))) = eTr g (.inr (.inl a)) := by
  by_cases h : a = 0 <;> simp [eRo, eTr, h, va_rf]
theorem i32_nat {n : Nat} (h : n < 2147483648) : Int32.ofNat n = Int32.ofInt (n : Int) := by
  apply Int32.toInt_inj.mp
  rw [show (Int32.ofNat n).toInt = (n : Int) from nI_toInt (by omega)]
  exact (w32_of (by omega) (by omega)).symm
theorem i32_clamp {i : Int} (h : -2147483648 ≤ i ∧ i ≤ 2147483647) : (Int32.ofInt i).toNatClampNeg = i.toNat := by
  show (Int32.ofInt i).toInt.toNat = _
  rw [show (Int32.ofInt i).toInt = i from w32_of h.1 h.2]
theorem i32_in {i : Int} {n : Nat} (h : -2147483648 ≤ i ∧ i ≤ 2147483647) (h0 : 0 ≤ i) (hn : i.toNat < n) : vp_in (Int32.ofInt i) n := by
  rintro (q | q)
  · have := (i32_lt h ok0).mp q
    omega
  · rw [i32_clamp h] at q
    omega
theorem eEn_int (g : eGt) (l : List eV) : eEn g (100, l) = .inl (g.2.2.2 0, l.length, .inl (fun j => Int32.ofInt (eVi (l.getD j (.inl 0))))) := rfl
theorem eEn_char (g : eGt) (l : List eV) : eEn g (101, l) = .inl (g.2.2.2 1, l.length, .inl (fun j => Int32.ofInt (eVi (l.getD j (.inl 0))))) := rfl
theorem eEn_lamp (g : eGt) (l : List eV) : eEn g (102, l) = .inl (g.2.2.2 2, l.length, .inr (.inr (.inr (.inr (fun j => eRo g (l.getD j (.inl 0))))))) := rfl
theorem eEn_beacon (g : eGt) (l : List eV) : eEn g (103, l) = .inl (g.2.2.2 3, l.length, .inr (.inr (.inr (.inr (fun j => eRo g (l.getD j (.inl 0))))))) := rfl
theorem eEn_long (g : eGt) (l : List eV) : eEn g (104, l) = .inl (g.2.2.2 4, l.length, .inr (.inl (fun j => eVl (l.getD j (.inl 0))))) := rfl
theorem eEn_obj (g : eGt) {t : Nat} (ht : t < 100) (l : List eV) : eEn g (t, l) = .inr (t, l.map (eTr g)) := by simp [eEn, ht]
section ESTEPS2
variable {f : eK} {y pc k : Nat} {ls st : List eV} {h h' : eH} {r : Option eV}
theorem sAlen (hf : eSnd f) (hr : xAlen f y (pc + 1) ls st h = some (r, h')) (hd : decode (eB y) pc = .ok (.arraylength, 1)) : eConc y pc ls st h r h' := by
  unfold xAlen at hr
  split at hr
  · next a st =>
    split at hr
    · next cc hc =>
      split at hr
      · next hcond =>
        obtain ⟨h1, h2, h3⟩ := hcond
        obtain ⟨t, l⟩ := cc
        refine eStep (eStp0 (fun o1 o2 _ => ⟨o1, eOkL_cons.mpr ⟨eOkV_l (by constructor <;> (dsimp only at h3 ⊢; omega)), (eOkL_cons.mp o2).2⟩⟩) ?_) (hf _ _ _ _ _ _ _ hr)
        intro g p l1 e R s m args below meth c _ o2 _ C H locs cells slots LS Qt hW hS hL kk
        obtain ⟨hx, hb, hml, hown, hts, hin, hfr, hlo, hSt⟩ := C
        rw [List.map_cons, eTr_r g h2]
        have k2 := kk LS hL
        by_cases ha : a < 8
        · rw [eAd_lo g ha]
          obtain ⟨e1, e2, e3, e4⟩ := hSt.1 a _ (Nat.pos_of_ne_zero h2) ha hc
          refine va_slen hx hb e4 (Nat.lt_of_lt_of_le e2 e3) (Nat.not_le.mpr e2) hS hd ?_
          rw [i32_nat h3]
          exact k2
        · have ha8 : 8 ≤ a := Nat.not_lt.mp ha
          rw [eAd_hi g ha8]
          have hget := eWl_get (g := g) hc ha8
          have ht : t = 100 ∨ t = 101 ∨ t = 102 ∨ t = 103 := by
            simp only [eArr, Bool.or_eq_true, Bool.and_eq_true, beq_iff_eq, decide_eq_true_eq] at h1
            omega
          rcases ht with rfl | rfl | rfl | rfl
          · rw [eEn_int] at hget
            exact va_alen hx hb hSt.2.2.2.2 hW.2.2 (a - 8) 0 hget rfl (i32_nat h3) hd k2
          · rw [eEn_char] at hget
            exact va_alen hx hb hSt.2.2.2.2 hW.2.2 (a - 8) 1 hget rfl (i32_nat h3) hd k2
          · rw [eEn_lamp] at hget
            exact va_alen hx hb hSt.2.2.2.2 hW.2.2 (a - 8) 2 hget rfl (i32_nat h3) hd k2
          · rw [eEn_beacon] at hget
            exact va_alen hx hb hSt.2.2.2.2 hW.2.2 (a - 8) 3 hget rfl (i32_nat h3) hd k2
      · cases hr
    · cases hr
  · cases hr
theorem sIald {t : Nat} (hf : eSnd f) (hr : xIald f y (pc + 1) t ls st h = some (r, h')) (hd : (t = 100 ∧ decode (eB y) pc = .ok (.iaload, 1)) ∨ (t = 101 ∧ decode (eB y) pc = .ok (.caload, 1) ∧ ∀ i a rest, st = .inl i :: .inr (.inl a) :: rest → 8 ≤ a)) : eConc y pc ls st h r h' := by
  unfold xIald at hr
  split at hr
  · next i a st =>
    split at hr
    · next cc hc =>
      split at hr
      · next hcond =>
        obtain ⟨h1, h2, h3⟩ := hcond
        obtain ⟨t', l⟩ := cc
        dsimp only at h1 hr
        subst h1
        split at hr
        · next x hxl =>
          have hil : i.toNat < l.length := (List.getElem?_eq_some_iff.mp hxl).1
          refine eStep (eStp0 (fun o1 o2 o3 => ⟨o1, eOkL_cons.mpr ⟨eOkL_get (eOkH_get o3 hc) hxl, (eOkL_cons.mp (eOkL_cons.mp o2).2).2⟩⟩) ?_) (hf _ _ _ _ _ _ _ hr)
          intro g p l1 e R s m args below meth c _ o2 _ C H locs cells slots LS Qt hW hS hL kk
          obtain ⟨hx, hb, hml, hown, hts, hin, hfr, hlo, hSt⟩ := C
          have oi := (eOkL_cons.mp o2).1 i rfl
          rw [List.map_cons, List.map_cons, eTr_r g h3]
          have k2 := kk LS hL
          have hv : Int32.ofInt (eVi (l.getD (Int32.ofInt i).toNatClampNeg (.inl 0))) = Int32.ofInt x := by rw [i32_clamp oi, List.getD_eq_getElem?_getD, hxl]; rfl
          have k3 : W p l1 e R s m args below meth c H locs cells slots Qt (F0 m (pc + 1) LS (.int (Int32.ofInt (eVi (l.getD (Int32.ofInt i).toNatClampNeg (.inl 0)))) :: st.map (eTr g))) := by rw [hv]; exact k2
          by_cases ha : a < 8
          · rw [eAd_lo g ha]
            obtain ⟨e1, e2, e3, e4⟩ := hSt.1 a _ (Nat.pos_of_ne_zero h3) ha hc
            rcases hd with ⟨rfl, hd⟩ | ⟨rfl, hd, h8⟩
            · exact va_sld hx hb e4 (Nat.lt_of_lt_of_le e2 e3) (Nat.not_le.mpr e2) hS (i32_in oi h2 hil) hd k3
            · exact absurd (h8 i a st rfl) (by omega)
          · have ha8 : 8 ≤ a := Nat.not_lt.mp ha
            rw [eAd_hi g ha8]
            have hget := eWl_get (g := g) hc ha8
            rcases hd with ⟨rfl, hd⟩ | ⟨rfl, hd, h8⟩
            · rw [eEn_int] at hget
              exact va_iald hx hb hSt.2.2.2.2 hW.2.2 (a - 8) 0 hget rfl (i32_in oi h2 hil) hd k3
            · rw [eEn_char] at hget
              exact va_cald hx hb hSt.2.2.2.2 hW.2.2 (a - 8) 1 hget rfl (i32_in oi h2 hil) hd k3
        · cases hr
      · cases hr
    · cases hr
  · cases hr
theorem sAald (hf : eSnd f) (hr : xAald f y (pc + 1) ls st h = some (r, h')) (hd : decode (eB y) pc = .ok (.aaload, 1)) : eConc y pc ls st h r h' := by
  unfold xAald at hr
  split at hr
  · next i a st =>
    split at hr
    · next cc hc =>
      split at hr
      · next hcond =>
        obtain ⟨h1, h2, ha8⟩ := hcond
        obtain ⟨t, l⟩ := cc
        dsimp only at h1 hr
        split at hr
        · next x hxl =>
          have hil : i.toNat < l.length := (List.getElem?_eq_some_iff.mp hxl).1
          refine eStep (eStp0 (fun o1 o2 o3 => ⟨o1, eOkL_cons.mpr ⟨eOkV_r x, (eOkL_cons.mp (eOkL_cons.mp o2).2).2⟩⟩) ?_) (hf _ _ _ _ _ _ _ hr)
          intro g p l1 e R s m args below meth c _ o2 _ C H locs cells slots LS Qt hW hS hL kk
          obtain ⟨hx, hb, hml, hown, hts, hin, hfr, hlo, hSt⟩ := C
          have oi := (eOkL_cons.mp o2).1 i rfl
          rw [List.map_cons, List.map_cons, eTr_r g (show a ≠ 0 by omega), eAd_hi g ha8]
          have k2 := kk LS hL
          have hv : va_rf (eRo g (l.getD (Int32.ofInt i).toNatClampNeg (.inl 0))) = eTr g (.inr (.inl x)) := by rw [i32_clamp oi, List.getD_eq_getElem?_getD, hxl]; exact eTr_rf g x
          have k3 : W p l1 e R s m args below meth c H locs cells slots Qt (F0 m (pc + 1) LS (va_rf (eRo g (l.getD (Int32.ofInt i).toNatClampNeg (.inl 0))) :: st.map (eTr g))) := by rw [hv]; exact k2
          have hget := eWl_get (g := g) hc ha8
          rcases h1 with rfl | rfl
          · rw [eEn_lamp] at hget
            exact va_aldq hx hb hSt.2.2.2.2 hW.2.2 (a - 8) 2 hget rfl (i32_in oi h2 hil) hd k3
          · rw [eEn_beacon] at hget
            exact va_aldq hx hb hSt.2.2.2.2 hW.2.2 (a - 8) 3 hget rfl (i32_in oi h2 hil) hd k3
        · cases hr
      · cases hr
    · cases hr
  · cases hr
theorem e_upd (l : List eV) {i : Nat} (hi : i < l.length) (x : Int) : upd (fun j => Int32.ofInt (eVi (l.getD j (.inl 0)))) i (Int32.ofInt x) = fun j => Int32.ofInt (eVi ((l.set i (.inl x)).getD j (.inl 0))) := by
  funext j
  dsimp only [upd]
  by_cases hj : j = i
  · subst hj
    rw [if_pos rfl, List.getD_eq_getElem?_getD, List.getElem?_set_self hi]
    rfl
  · rw [if_neg hj, List.getD_eq_getElem?_getD, List.getD_eq_getElem?_getD, List.getElem?_set_ne (fun q => hj q.symm)]
theorem e_up (g : eGt) (l : List eV) {i : Nat} (hi : i < l.length) {x : Nat} (hx : x ≠ 0) : va_up (fun j => eRo g (l.getD j (.inl 0))) i (some (eAd g x)) = fun j => eRo g ((l.set i (.inr (.inl x))).getD j (.inl 0)) := by
  funext j
  dsimp only [va_up]
  by_cases hj : j = i
  · subst hj
    rw [if_pos rfl, List.getD_eq_getElem?_getD, List.getElem?_set_self hi]
    simp [eRo, hx]
  · rw [if_neg hj, List.getD_eq_getElem?_getD, List.getD_eq_getElem?_getD, List.getElem?_set_ne (fun q => hj q.symm)]
/-- a cell's contents change, its length doesn't -/
theorem eStpSet {a : Nat} {c0 c1 : eC} {ls2 st2 : List eV} {pc2 : Nat} (hc : h[a]? = some c0) (hl : c1.2.length = c0.2.length) (h8 : 8 ≤ a) (hok : eOkL ls → eOkL st → eOkH h → eOkL ls2 ∧ eOkL st2 ∧ eOkL c1.2)
    (hW : ∀ (g : eGt) (p : Program) (l : Launch) (e : Env) (R : Room) (s : State) (m : MethodId) (args : Array Value) (below : List Frame) (meth : Method) (c : Code), eOkL ls → eOkL st → eOkH h →
      eCx g y h p R s m args meth c → ∀ (H : Heap) (locs : List Loc) (cells slots : Nat) (LS : Array Slot) (Qt : State → Prop), eWd g h H → va_S (eAr g) s.heap H locs → eLr g y ls LS →
      (∀ (H2 : Heap) (locs2 : List Loc) (LS2 : Array Slot), H2.size = H.size → va_P g.2.2.1 vwCl ((eWl g h).set (a - 8) (g.1 + (a - 8), eEn g c1)) H2 → va_S (eAr g) s.heap H2 locs2 → eLr g y ls2 LS2 → W p l e R s m args below meth c H2 locs2 cells slots Qt (F0 m pc2 LS2 (st2.map (eTr g)))) →
      W p l e R s m args below meth c H locs cells slots Qt (F0 m pc LS (st.map (eTr g)))) : eStp y pc ls st h pc2 ls2 st2 (h.set a c1) := by
  have hal := (List.getElem?_eq_some_iff.mp hc).1
  intro o1 o2 o3 o4
  obtain ⟨p1, p2, p3⟩ := hok o1 o2 o3
  refine ⟨⟨p1, p2, eOkH_set o3 p3, eGr_set hc hl h8⟩, ?_⟩
  intro g p l e R s m args below meth c C H locs cells slots LS Qt hw hS hL _ _ kk
  refine hW g p l e R s m args below meth c o1 o2 o3 C H locs cells slots LS Qt hw hS hL ?_
  intro H2 locs2 LS2 z hP hS2 hL2
  have := kk H2 locs2 LS2 ⟨by rw [List.length_set]; exact hw.1, by rw [List.length_set, z]; exact hw.2.1, by rw [eWl_set h8 hal]; exact hP⟩ hS2 hL2
  rw [eSz_set hc hl, List.length_set, Nat.sub_self, Nat.sub_self, Nat.add_zero, Nat.add_zero] at this
  exact this
theorem e_updV (l : List eV) {i : Nat} (hi : i < l.length) (x : Int) : updV (fun j => Value.int (Int32.ofInt (eVi (l.getD j (.inl 0))))) i (.int (Int32.ofInt x)) = fun j => Value.int (Int32.ofInt (eVi ((l.set i (.inl x)).getD j (.inl 0)))) := by
  funext j
  have := congrFun (e_upd l hi x) j
  dsimp only [upd, updV] at this ⊢
  by_cases hj : j = i
  · rw [if_pos hj] at this ⊢; rw [this]
  · rw [if_neg hj] at this ⊢; rw [this]
theorem e_updQ (g : eGt) (l : List eV) {i : Nat} (hi : i < l.length) {x : Nat} (hx : x ≠ 0) : updV (fun j => va_rf (eRo g (l.getD j (.inl 0)))) i (.ref (eAd g x)) = fun j => va_rf (eRo g ((l.set i (.inr (.inl x))).getD j (.inl 0))) := by
  funext j
  have := congrFun (e_up g l hi hx) j
  dsimp only [va_up, updV] at this ⊢
  by_cases hj : j = i
  · rw [if_pos hj] at this ⊢; rw [← this]; rfl
  · rw [if_neg hj] at this ⊢; rw [this]
theorem sIastore {t : Nat} (hf : eSnd f) (hr : xIastore f y (pc + 1) t ls st h = some (r, h')) (hd : (t = 100 ∧ decode (eB y) pc = .ok (.iastore, 1)) ∨ (t = 101 ∧ decode (eB y) pc = .ok (.castore, 1))) : eConc y pc ls st h r h' := by
  unfold xIastore at hr
  split at hr
  · next x i a st =>
    split at hr
    · next cc hc =>
      split at hr
      · next hcond =>
        obtain ⟨h1, h2, h3, h8, h4⟩ := hcond
        obtain ⟨t', l⟩ := cc
        dsimp only at h1 h3 hr
        subst h1
        refine eStep (eStpSet hc (by simp) h8 (fun o1 o2 o3 => ⟨o1, (eOkL_cons.mp (eOkL_cons.mp (eOkL_cons.mp o2).2).2).2, eOkL_set (eOkH_get o3 hc) (eOkL_cons.mp o2).1⟩) ?_) (hf _ _ _ _ _ _ _ hr)
        intro g p l1 e R s m args below meth c _ o2 _ C H locs cells slots LS Qt hW hS hL kk
        obtain ⟨hx, hb, hml, hown, hts, hin, hfr, hlo, hSt⟩ := C
        have oi := (eOkL_cons.mp (eOkL_cons.mp o2).2).1 i rfl
        have ox := (eOkL_cons.mp o2).1 x rfl
        rw [List.map_cons, List.map_cons, List.map_cons, eTr_r g (show a ≠ 0 by omega), eAd_hi g h8]
        have hget := eWl_get (g := g) hc h8
        have hAa : eAr g (g.1 + (a - 8)) := Nat.le_add_right _ _
        rcases hd with ⟨rfl, hd⟩ | ⟨rfl, hd⟩
        · rw [eEn_int] at hget
          refine W.iast hx hb (hW.2.2 (a - 8) _ hget) ((hSt.2.2.2.2.2 0 _ rfl).1 l.length (fun j => .int (Int32.ofInt (eVi (l.getD j (.inl 0)))))) (fun q => by cases q) (by show ¬ (_ ∨ (arrV _ _ _).slots.size ≤ _); rw [arrV_size]; exact i32_in oi h2 h3) rfl rfl hd fun H1 e1 z oq => ?_
          refine kk H1 _ LS z (hW.2.2.set eWl_D hget ?_ oq) (hS.put z oq hAa) hL
          show H1[_]? = some (vp_cell _ _)
          rw [e1, vp_cell_i, arrV_store, vp_cell_i, i32_clamp oi, e_updV l h3 x, List.length_set]
          rfl
        · rw [eEn_char] at hget
          refine W.cast hx hb (hW.2.2 (a - 8) _ hget) ((hSt.2.2.2.2.2 1 _ rfl).1 l.length (fun j => .int (Int32.ofInt (eVi (l.getD j (.inl 0)))))) (fun q => by cases q) (by show ¬ (_ ∨ (arrV _ _ _).slots.size ≤ _); rw [arrV_size]; exact i32_in oi h2 h3) rfl rfl hd fun H1 e1 z oq => ?_
          refine kk H1 _ LS z (hW.2.2.set eWl_D hget ?_ oq) (hS.put z oq hAa) hL
          have hn : narrow .char (.int (Int32.ofInt x)) = .int (Int32.ofInt x) := by
            have hx2 := h4 rfl
            have := (pk_charN (q := x.toNat) (by omega)).1
            have e : nI x.toNat = Int32.ofInt x := by
              rw [show nI x.toNat = Int32.ofNat x.toNat from rfl, i32_nat (by omega), Int.toNat_of_nonneg hx2.1]
            rw [e] at this
            exact this
          show H1[_]? = some (vp_cell _ _)
          rw [e1, hn, vp_cell_i, arrV_store, vp_cell_i, i32_clamp oi, e_updV l h3 x, List.length_set]
          rfl
      · cases hr
    · cases hr
  · cases hr
theorem sAastore (hf : eSnd f) (hr : xAastore f y (pc + 1) ls st h = some (r, h')) (hd : decode (eB y) pc = .ok (.aastore, 1)) : eConc y pc ls st h r h' := by
  unfold xAastore at hr
  split at hr
  · next x i a st =>
    split at hr
    · next cc dd hc hdx =>
      split at hr
      · next hcond =>
        obtain ⟨h1, h2, h3, h8, hx8⟩ := hcond
        obtain ⟨t', l⟩ := cc
        obtain ⟨td, ld⟩ := dd
        dsimp only at h1 h3 hr
        refine eStep (eStpSet hc (by simp) h8 (fun o1 o2 o3 => ⟨o1, (eOkL_cons.mp (eOkL_cons.mp (eOkL_cons.mp o2).2).2).2, eOkL_set (eOkH_get o3 hc) (eOkL_cons.mp o2).1⟩) ?_) (hf _ _ _ _ _ _ _ hr)
        intro g p l1 e R s m args below meth c _ o2 _ C H locs cells slots LS Qt hW hS hL kk
        obtain ⟨hx, hb, hml, hown, hts, hin, hfr, hlo, hSt⟩ := C
        have oi := (eOkL_cons.mp (eOkL_cons.mp o2).2).1 i rfl
        rw [List.map_cons, List.map_cons, List.map_cons, eTr_r g (show a ≠ 0 by omega), eTr_r g (show x ≠ 0 by omega), eAd_hi g h8]
        have hget := eWl_get (g := g) hc h8
        have hgetx := eWl_get (g := g) hdx hx8
        have hAa : eAr g (g.1 + (a - 8)) := Nat.le_add_right _ _
        have K := hSt.2.2.2.2
        have key : ∀ (t0 ci : Nat) (q : vw_C) (l0 : List eV), vwCl[ci]? = some q → (eTys g)[t0]? = some (g.2.2.2 t0, .object q.1) → (eWl g h)[a - 8]? = some (g.1 + (a - 8), .inl (g.2.2.2 t0, l.length, .inr (.inr (.inr (.inr (fun j => eRo g (l.getD j (.inl 0)))))))) → (eWl g h)[x - 8]? = some (g.1 + (x - 8), .inr (ci, ld.map (eTr g))) →
            (eEn g (t', l.set i.toNat (.inr (.inl x))) = .inl (g.2.2.2 t0, (l.set i.toNat (.inr (.inl x))).length, .inr (.inr (.inr (.inr (fun j => eRo g ((l.set i.toNat (.inr (.inl x))).getD j (.inl 0)))))))) →
            W p l1 e R s m args below meth c H locs cells slots Qt (F0 m pc LS (.ref (eAd g x) :: eTr g (.inl i) :: .ref (g.1 + (a - 8)) :: st.map (eTr g))) := by
          intro t0 ci q l0 hci ht hget hgetx hen
          obtain ⟨r', hr', cellV, g1, g2, g3, -⟩ := hW.2.2 (x - 8) _ hgetx
          have hcls := (K.1 ci q hci).2
          obtain ⟨kA, comp, k1, k2, k3, -⟩ := (K.2 t0 _ ht).2
          have hcomp : comp = g.2.2.1.1 ci := Option.some.inj (k3.symm.trans hcls.1)
          subst hcomp
          obtain ⟨kC, hkC, -⟩ := hcls.2
          rw [eAd_hi g hx8]
          refine W.aast hx hb (hW.2.2 (a - 8) _ hget) (fun q h => by cases h) (fun h => by cases h) k1 k2 rfl hkC ⟨fun z => i32_in oi h2 h3 (Or.inl z), by show _ < (arrV _ _ _).slots.size; rw [arrV_size]; exact Nat.not_le.mp (fun z => i32_in oi h2 h3 (Or.inr z))⟩ g1 (fun q h => by rw [g3] at h; cases h) (by rw [g2]; exact hkC) (by rw [g2]; exact va_assign hcls) rfl rfl hd fun H1 e1 z oq => ?_
          refine kk H1 _ LS z (hW.2.2.set eWl_D hget ?_ oq) (hS.put z oq hAa) hL
          rw [hen]
          show H1[_]? = some (vp_cell _ _)
          rw [e1, vp_cell_q, arrV_store, vp_cell_q, i32_clamp oi, ← eAd_hi g hx8, e_updQ g l h3 (show x ≠ 0 by omega), List.length_set]
        rcases h1 with ⟨rfl, rfl⟩ | ⟨rfl, rfl⟩
        · rw [eEn_lamp] at hget
          rw [eEn_obj g (by omega)] at hgetx
          exact key 2 3 _ l rfl rfl hget hgetx (eEn_lamp g _)
        · rw [eEn_beacon] at hget
          rw [eEn_obj g (by omega)] at hgetx
          exact key 3 0 _ l rfl rfl hget hgetx (eEn_beacon g _)
      · cases hr
    · cases hr
  · cases hr
theorem sGet {idx : Nat} (hf : eSnd f) (hr : xGet f y pc idx ls st h = some (r, h')) (hd : decode (eB y) pc = .ok (.getfield idx, 3)) : eConc y pc ls st h r h' := by
  unfold xGet at hr
  split at hr
  · next a st =>
    split at hr
    · next q cc hq hc =>
      split at hr
      · next hcond =>
        obtain ⟨h1, h8⟩ := hcond
        obtain ⟨t, l⟩ := cc
        dsimp only at h1 hr
        split at hr
        · next v hv =>
          refine eStep (eStp0 (fun o1 o2 o3 => ⟨o1, eOkL_cons.mpr ⟨eOkL_get (eOkH_get o3 hc) hv, (eOkL_cons.mp o2).2⟩⟩) ?_) (hf _ _ _ _ _ _ _ hr)
          intro g p l1 e R s m args below meth c _ o2 _ C H locs cells slots LS Qt hW hS hL kk
          obtain ⟨hx, hb, hml, hown, hts, hin, hfr, hlo, hSt⟩ := C
          rw [List.map_cons, eTr_r g (show a ≠ 0 by omega), eAd_hi g h8]
          obtain ⟨C, T, N, hC, hN, hlink, hsame, -⟩ := eFk_spec hq
          have ht : t < 100 := by
            have := (List.getElem?_eq_some_iff.mp hC).1
            rw [← h1] at this
            exact Nat.lt_trans this (by decide)
          have hget := eWl_get (g := g) hc h8
          rw [eEn_obj g ht, h1] at hget
          exact va_get (D := g.2.2.1) hx hb hts (eV_spec hC).1 hown hSt.2.2.2.2 hW.2.2 (a - 8) hget hC q.2.1 hN (hts _ hlink) (fun _ h9 => by rw [hsame] at h9; exact h9) (by rw [List.getElem?_map, hv]; rfl) hd (kk LS hL)
        · cases hr
      · cases hr
    · cases hr
  · cases hr
theorem eFit_spec {ty : Option FieldType} {t : Nat} {v : eV} (g : eGt) (h : eFit t v = true) (hty : (t = 0 ∧ ty = some .int) ∨ (t = 1 ∧ ty = some .boolean) ∨ (t ≠ 0 ∧ t ≠ 1 ∧ eRefTy ty = true)) : ∃ ty0, ty = some ty0 ∧ narrow ty0 (eTr g v) = eTr g v ∧ fits ty0 (eTr g v) = true := by
  cases v with
  | inl x =>
    simp only [eFit, Bool.or_eq_true, Bool.and_eq_true, beq_iff_eq] at h
    rcases hty with ⟨rfl, rfl⟩ | ⟨rfl, rfl⟩ | ⟨h1, h2, -⟩
    · exact ⟨_, rfl, rfl, rfl⟩
    · rcases h with h | ⟨-, rfl | rfl⟩
      · cases h
      · exact ⟨_, rfl, (show narrow .boolean (.int (Int32.ofInt 0)) = .int (Int32.ofInt 0) by decide +kernel), (show fits .boolean (.int (Int32.ofInt 0)) = true by decide +kernel)⟩
      · exact ⟨_, rfl, (show narrow .boolean (.int (Int32.ofInt 1)) = .int (Int32.ofInt 1) by decide +kernel), (show fits .boolean (.int (Int32.ofInt 1)) = true by decide +kernel)⟩
    · omega
  | inr z =>
   cases z with
   | inr w => exact absurd h (by simp [eFit])
   | inl a =>
    simp only [eFit, Bool.and_eq_true, beq_iff_eq, bne_iff_ne, ne_eq] at h
    obtain ⟨rfl, h0⟩ := h
    rcases hty with ⟨h1, -⟩ | ⟨h1, -⟩ | ⟨-, -, h3⟩
    · cases h1
    · cases h1
    · unfold eRefTy at h3
      rw [eTr_r g h0]
      split at h3
      · exact ⟨_, rfl, rfl, rfl⟩
      · exact ⟨_, rfl, rfl, rfl⟩
      · cases h3
theorem sPut {idx : Nat} (hf : eSnd f) (hr : xPut f y pc idx ls st h = some (r, h')) (hd : decode (eB y) pc = .ok (.putfield idx, 3)) : eConc y pc ls st h r h' := by
  unfold xPut at hr
  split at hr
  · next v a st =>
    split at hr
    · next q cc hq hc =>
      split at hr
      · next hcond =>
        obtain ⟨h1, h8, hlen, hfit, hfin⟩ := hcond
        obtain ⟨t, l⟩ := cc
        dsimp only at h1 hr hlen
        refine eStep (eStpSet hc (by simp) h8 (fun o1 o2 o3 => ⟨o1, (eOkL_cons.mp (eOkL_cons.mp o2).2).2, eOkL_set (eOkH_get o3 hc) (eOkL_cons.mp o2).1⟩) ?_) (hf _ _ _ _ _ _ _ hr)
        intro g p l1 e R s m args below meth c _ o2 _ C H locs cells slots LS Qt hW hS hL kk
        obtain ⟨hx, hb, hml, hown, hts, hin, hfr, hlo, hSt⟩ := C
        rw [List.map_cons, List.map_cons, eTr_r g (show a ≠ 0 by omega), eAd_hi g h8]
        obtain ⟨C, T, N, hC, hN, hlink, hsame, hty⟩ := eFk_spec hq
        have ht : t < 100 := by
          have := (List.getElem?_eq_some_iff.mp hC).1
          rw [← h1] at this
          exact Nat.lt_trans this (by decide)
        have hget := eWl_get (g := g) hc h8
        rw [eEn_obj g ht, h1] at hget
        obtain ⟨ty, hpt, hn, hft⟩ := eFit_spec g hfit hty
        obtain ⟨⟨ty0, hty0⟩, hnm⟩ := eV_ty hC
        have K := hSt.2.2.2.2
        have hap := va_apart (own := eR (eO y)) hts (eV_spec hC).1 ty0 hty0 hnm K hC
        obtain ⟨r1, h1', cell, q1, q2, q3, q4⟩ := hW.2.2 (a - 8) _ hget
        have hr1 : r1 = (C, T, N) := Option.some.inj (h1'.symm.trans hC)
        subst hr1
        obtain ⟨hSl, hfc, kC, hkC, hkind⟩ := K.1 q.1 _ hC
        obtain ⟨cf, kf, fi, fd, hi, hsl⟩ := hSl q.2.1 hN
        have hlay := hts _ ((eV_spec hC).1 _ (u_in_lay hN))
        have hst := (u_facts hfc hkC (u_lays hts (eV_spec hC).1 hN) hi).1
        have hAa : eAr g (g.1 + (a - 8)) := Nat.le_add_right _ _
        have hi2 : s.fieldFound? C (T q.2.1).2.1 (T q.2.1).2.2.1 = some (cf, kf, fi, fd) := by
          have := hi
          rw [hsame] at this
          exact this
        have fin2 : ∀ H' : Heap, H'[g.1 + (a - 8)]? = some (cell.setSlot fd.slot (eTr g v)) → H'.size = H.size → (∀ z, z ≠ g.1 + (a - 8) → H'[z]? = H[z]?) → W p l1 e R s m args below meth c H' (locs ++ [⟨g.1 + (a - 8), fd.slot⟩]) cells slots Qt (F0 m (pc + 3) LS (st.map (eTr g))) := by
          intro H' e1 e2 e3
          rw [hsl] at e1 ⊢
          refine kk H' _ LS e2 (hW.2.2.set eWl_D hget ?_ e3) (hS.put e2 e3 hAa) hL
          rw [eEn_obj g ht, h1, List.map_set]
          exact ⟨_, hC, t_OB.to (V := updV (vp_V (l.map (eTr g))) q.2.1 (eTr g v)) ⟨_, e1, q2, q3, t_set q4 hap hN (eTr g v)⟩ (fun j _ => vp_updV_set (by simpa using hlen) (eTr g v) j)⟩
        cases hb2 : (T q.2.1).2.2.2 with
        | false =>
          unfold u_lay at hlay
          rw [if_neg (by rw [hb2]; decide)] at hlay
          have h6 := u_store hfc hkC hkind hlay hi hpt hn hft
          exact W.putK hx hb (f := fd) ⟨hown, hts _ hlink, ⟨_, _, _, hi2⟩, hst⟩ (by rw [q2]; exact h6) q1 q3 (by rw [hsl]; exact k2_hasslot (q4 q.2.1 hN)) rfl rfl hd fin2
        | true =>
          have hfin2 : eI y = true ∧ eG (eO y) = q.1 ∧ eO y < 10 := by
            rcases hfin with z | z
            · unfold eFin at z
              rw [hC] at z
              dsimp only at z
              rw [hb2] at z
              cases z
            · exact z
          have hown1 : C = eR (eO y) := by
            have := List.all_eq_true.mp eO_ok (eO y) (List.mem_range.mpr (by omega))
            unfold eOchk at this
            rw [hfin2.2.1, hC] at this
            simpa using this
          unfold u_lay at hlay
          rw [if_pos hb2] at hlay
          have hcf : m.cls = cf := by
            obtain ⟨_, _, c', _, _, _, -, -, hf', -, -, -, hown2, -⟩ := Cond.laysFinal_spec hlay
            have e1 : c' = cf := by have := hi.symm.trans hf'; simp at this; exact this.1.symm
            rw [hsame, hown1] at hown2
            rw [← e1]; exact Option.some.inj (hown.symm.trans hown2)
          have h6 := u_fits hfc hkC hkind (Or.inr hlay) hi hpt hn hft
          exact W.putFinK hx hb hown (hts _ hlink) hi2 hst hcf (hin hfin2.1) (by rw [q2]; exact h6) q1 q3 (by rw [hsl]; exact k2_hasslot (q4 q.2.1 hN)) rfl rfl hd fin2
      · cases hr
    · cases hr
  · cases hr
theorem sLald (hf : eSnd f) (hr : xLald f y (pc + 1) ls st h = some (r, h')) (hd : decode (eB y) pc = .ok (.laload, 1)) : eConc y pc ls st h r h' := by
  unfold xLald at hr
  split at hr
  · next i a st =>
    split at hr
    · next cc hc =>
      split at hr
      · next hcond =>
        obtain ⟨h1, h2, ha8⟩ := hcond
        obtain ⟨t, l⟩ := cc
        dsimp only at h1 hr
        subst h1
        split at hr
        · next x hxl =>
          have hil : i.toNat < l.length := (List.getElem?_eq_some_iff.mp hxl).1
          refine eStep (eStp0 (fun o1 o2 o3 => ⟨o1, eOkL_cons.mpr ⟨eOkV_g x, (eOkL_cons.mp (eOkL_cons.mp o2).2).2⟩⟩) ?_) (hf _ _ _ _ _ _ _ hr)
          intro g p l1 e R s m args below meth c _ o2 _ C H locs cells slots LS Qt hW hS hL kk
          obtain ⟨hx, hb, hml, hown, hts, hin, hfr, hlo, hSt⟩ := C
          have oi := (eOkL_cons.mp o2).1 i rfl
          rw [List.map_cons, List.map_cons, eTr_r g (show a ≠ 0 by omega), eAd_hi g ha8]
          have k2 := kk LS hL
          have hv : Value.long (eVl (l.getD (Int32.ofInt i).toNatClampNeg (.inl 0))) = eTr g (.inr (.inr x)) := by rw [i32_clamp oi, List.getD_eq_getElem?_getD, hxl]; rfl
          have k3 : W p l1 e R s m args below meth c H locs cells slots Qt (F0 m (pc + 1) LS (.long (eVl (l.getD (Int32.ofInt i).toNatClampNeg (.inl 0))) :: st.map (eTr g))) := by rw [hv]; exact k2
          have hget := eWl_get (g := g) hc ha8
          rw [eEn_long] at hget
          exact va_lald hx hb hSt.2.2.2.2 hW.2.2 (a - 8) 4 hget rfl (i32_in oi h2 hil) hd k3
        · cases hr
      · cases hr
    · cases hr
  · cases hr
theorem e_updL (l : List eV) {i : Nat} (hi : i < l.length) (x : Int64) : updV (fun j => Value.long (eVl (l.getD j (.inl 0)))) i (.long x) = fun j => Value.long (eVl ((l.set i (.inr (.inr x))).getD j (.inl 0))) := by
  funext j
  dsimp only [updV]
  by_cases hj : j = i
  · subst hj
    rw [if_pos rfl, List.getD_eq_getElem?_getD, List.getElem?_set_self hi]
    rfl
  · rw [if_neg hj, List.getD_eq_getElem?_getD, List.getD_eq_getElem?_getD, List.getElem?_set_ne (fun q => hj q.symm)]
theorem sLast (hf : eSnd f) (hr : xLast f y (pc + 1) ls st h = some (r, h')) (hd : decode (eB y) pc = .ok (.lastore, 1)) : eConc y pc ls st h r h' := by
  unfold xLast at hr
  split at hr
  · next x i a st =>
    split at hr
    · next cc hc =>
      split at hr
      · next hcond =>
        obtain ⟨h1, h2, h3, h8⟩ := hcond
        obtain ⟨t', l⟩ := cc
        dsimp only at h1 h3 hr
        subst h1
        refine eStep (eStpSet hc (by simp) h8 (fun o1 o2 o3 => ⟨o1, (eOkL_cons.mp (eOkL_cons.mp (eOkL_cons.mp o2).2).2).2, eOkL_set (eOkH_get o3 hc) (eOkL_cons.mp o2).1⟩) ?_) (hf _ _ _ _ _ _ _ hr)
        intro g p l1 e R s m args below meth c _ o2 _ C H locs cells slots LS Qt hW hS hL kk
        obtain ⟨hx, hb, hml, hown, hts, hin, hfr, hlo, hSt⟩ := C
        have oi := (eOkL_cons.mp (eOkL_cons.mp o2).2).1 i rfl
        rw [List.map_cons, List.map_cons, List.map_cons, eTr_r g (show a ≠ 0 by omega), eAd_hi g h8]
        have hget := eWl_get (g := g) hc h8
        have hAa : eAr g (g.1 + (a - 8)) := Nat.le_add_right _ _
        rw [eEn_long] at hget
        refine W.last hx hb (hW.2.2 (a - 8) _ hget) ((hSt.2.2.2.2.2 4 _ rfl).1 l.length (fun j => .long (eVl (l.getD j (.inl 0))))) (fun q => by cases q) (by show ¬ (_ ∨ (arrV _ _ _).slots.size ≤ _); rw [arrV_size]; exact i32_in oi h2 h3) rfl rfl hd fun H1 e1 z oq => ?_
        refine kk H1 _ LS z (hW.2.2.set eWl_D hget ?_ oq) (hS.put z oq hAa) hL
        show H1[_]? = some (vp_cell _ _)
        rw [e1, vp_cell_l, arrV_store, vp_cell_l, i32_clamp oi, e_updL l h3 x, List.length_set]
      · cases hr
    · cases hr
  · cases hr
end ESTEPS2
