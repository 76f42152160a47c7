/-! numbered cells as cells of the machine: number k at or beyond 8 lies at the address g.1 + (k - 8); 1 to 7 are old cells at g.2.1 k -/
abbrev eGt : Type := Nat × (Nat → Nat) × va_G × (Nat → ClassId)
def eAd (g : eGt) (k : Nat) : Nat := if k < 8 then g.2.1 k else g.1 + (k - 8)
def eTr (g : eGt) (v : eV) : Value := match v with
  | .inl x => .int (Int32.ofInt x)
  | .inr (.inl k) => if k = 0 then .null else .ref (eAd g k)
  | .inr (.inr x) => .long x
def eVi (v : eV) : Int := match v with
  | .inl x => x
  | .inr _ => 0
def eVl (v : eV) : Int64 := match v with
  | .inr (.inr x) => x
  | _ => 0
def eRo (g : eGt) (v : eV) : Option Nat := match v with
  | .inl _ => none
  | .inr (.inl k) => if k = 0 then none else some (eAd g k)
  | .inr (.inr _) => none
def eEn (g : eGt) (c : eC) : va_E := if c.1 < 100 then .inr (c.1, c.2.map (eTr g)) else if c.1 < 102 then .inl (g.2.2.2 (c.1 - 100), c.2.length, .inl (fun j => Int32.ofInt (eVi (c.2.getD j (.inl 0)))))
  else if c.1 = 104 then .inl (g.2.2.2 4, c.2.length, .inr (.inl (fun j => eVl (c.2.getD j (.inl 0))))) else .inl (g.2.2.2 (c.1 - 100), c.2.length, .inr (.inr (.inr (.inr (fun j => eRo g (c.2.getD j (.inl 0)))))))
def eWl (g : eGt) (h : eH) : va_W := (List.range (h.length - 8)).map fun i => (g.1 + i, eEn g (h.getD (i + 8) (0, [])))
abbrev eAr (g : eGt) : Nat → Prop := fun q => g.1 ≤ q
def eSz (h : eH) : Nat := ((h.drop 8).map fun c => c.2.length).sum
def eTys (g : eGt) : List (ClassId × FieldType) := [(g.2.2.2 0, .int), (g.2.2.2 1, .char), (g.2.2.2 2, .object "LampChanger$Lamp"), (g.2.2.2 3, .object "LampChanger$Beacon"), (g.2.2.2 4, .long)]
theorem eWl_get {g : eGt} {h : eH} {k : Nat} {c : eC} (hk : h[k]? = some c) (h8 : 8 ≤ k) : (eWl g h)[k - 8]? = some (g.1 + (k - 8), eEn g c) := by
  have hl := (List.getElem?_eq_some_iff.mp hk).1
  unfold eWl
  rw [List.getElem?_map, List.getElem?_range (by omega)]
  simp only [Option.map_some, Nat.sub_add_cancel h8, List.getD_eq_getElem?_getD, hk, Option.getD_some]
theorem eWl_len {g : eGt} {h : eH} : (eWl g h).length = h.length - 8 := by simp [eWl]
theorem eWl_set {g : eGt} {h : eH} {k : Nat} {c : eC} (h8 : 8 ≤ k) (hl : k < h.length) : eWl g (h.set k c) = (eWl g h).set (k - 8) (g.1 + (k - 8), eEn g c) := by
  apply List.ext_getElem?
  intro i
  by_cases hi : i = k - 8
  · subst hi
    rw [List.getElem?_set_self (by rw [eWl_len]; omega)]
    exact eWl_get (by rw [List.getElem?_set_self hl]) h8
  · rw [List.getElem?_set_ne (fun q => hi q.symm)]
    unfold eWl
    rw [List.length_set, List.getElem?_map, List.getElem?_map]
    by_cases hlt : i < h.length - 8
    · rw [List.getElem?_range hlt]
      simp only [Option.map_some, List.getD_eq_getElem?_getD]
      rw [List.getElem?_set_ne (by omega)]
    · rw [List.getElem?_eq_none (by rw [List.length_range]; omega)]
      rfl
theorem eWl_push {g : eGt} {h : eH} {c : eC} (h8 : 8 ≤ h.length) : eWl g (h ++ [c]) = eWl g h ++ [(g.1 + (h.length - 8), eEn g c)] := by
  apply List.ext_getElem?
  intro i
  unfold eWl
  rw [List.length_append, List.length_singleton, show h.length + 1 - 8 = (h.length - 8) + 1 by omega, List.range_succ, List.map_append, List.map_singleton]
  rw [show (h ++ [c]).getD (h.length - 8 + 8) (0, []) = c by rw [Nat.sub_add_cancel h8]; simp]
  congr 2
  apply List.map_congr_left
  intro j hj
  rw [List.mem_range] at hj
  rw [List.getD_eq_getElem?_getD, List.getElem?_append_left (by omega), ← List.getD_eq_getElem?_getD]
theorem eWl_D {g : eGt} {h : eH} : va_D (eAr g) (eWl g h) := by
  have key : ∀ (k : Nat) (q : Nat × va_E), (eWl g h)[k]? = some q → q.1 = g.1 + k := by
    intro k q hq
    unfold eWl at hq
    rw [List.getElem?_map] at hq
    cases hr : (List.range (h.length - 8))[k]? with
    | none => rw [hr] at hq; cases hq
    | some j =>
      rw [hr] at hq
      have hj : j = k := by
        obtain ⟨h1, h2⟩ := List.getElem?_eq_some_iff.mp hr
        rw [List.getElem_range] at h2
        exact h2.symm
      subst hj
      cases hq
      rfl
  refine ⟨fun i j p q hi hj hpq => ?_, fun k q hk => ?_⟩
  · have h1 := key i p hi
    have h2 := key j q hj
    omega
  · have h1 := key k q hk
    show g.1 ≤ q.1
    omega
theorem eSz_push {h : eH} {c : eC} (h8 : 8 ≤ h.length) : eSz (h ++ [c]) = eSz h + c.2.length := by
  unfold eSz
  rw [List.drop_append_of_le_length h8]
  simp
theorem eSz_set {h : eH} {k : Nat} {c c' : eC} (hk : h[k]? = some c) (hl : c'.2.length = c.2.length) : eSz (h.set k c') = eSz h := by
  unfold eSz
  congr 1
  apply List.ext_getElem?
  intro i
  rw [List.getElem?_map, List.getElem?_map, List.getElem?_drop, List.getElem?_drop]
  by_cases hi : 8 + i = k
  · rw [hi, List.getElem?_set_self (List.getElem?_eq_some_iff.mp hk).1, hk]
    simp [hl]
  · rw [List.getElem?_set_ne (fun q => hi q.symm)]
def eGr (h h2 : eH) : Prop := h.length ≤ h2.length ∧ eSz h ≤ eSz h2 ∧ ∀ j, j < 8 → h2[j]? = h[j]?
theorem eGr.refl {h : eH} : eGr h h := ⟨Nat.le_refl _, Nat.le_refl _, fun _ _ => rfl⟩
theorem eGr.trans {a b c : eH} (h : eGr a b) (k : eGr b c) : eGr a c := ⟨Nat.le_trans h.1 k.1, Nat.le_trans h.2.1 k.2.1, fun j hj => (k.2.2 j hj).trans (h.2.2 j hj)⟩
theorem eGr_set {h : eH} {k : Nat} {c c' : eC} (hk : h[k]? = some c) (hl : c'.2.length = c.2.length) (h8 : 8 ≤ k) : eGr h (h.set k c') :=
  ⟨by simp, by rw [eSz_set hk hl]; exact Nat.le_refl _, fun j hj => by rw [List.getElem?_set_ne (by omega)]⟩
theorem eGr_push {h : eH} {c : eC} (h8 : 8 ≤ h.length) : eGr h (h ++ [c]) :=
  ⟨by simp, by rw [eSz_push h8]; omega, fun j hj => by rw [List.getElem?_append_left (by omega)]⟩
/-! values within the range of an int -/
def eOkV (v : eV) : Prop := ∀ x, v = .inl x → -2147483648 ≤ x ∧ x ≤ 2147483647
def eOkL (l : List eV) : Prop := ∀ v ∈ l, eOkV v
def eOkH (h : eH) : Prop := ∀ c ∈ h, eOkL c.2
def eOkR (r : Option eV) : Prop := ∀ v, r = some v → eOkV v
theorem eOkV_r (a : Nat) : eOkV (.inr (.inl a)) := fun x h => by cases h
theorem eOkV_g (w : Int64) : eOkV (.inr (.inr w)) := fun x h => by cases h
theorem eOkV_l {x : Int} (h : -2147483648 ≤ x ∧ x ≤ 2147483647) : eOkV (.inl x) := fun y hy => by cases hy; exact h
theorem eOkL_cons {v : eV} {l : List eV} : eOkL (v :: l) ↔ eOkV v ∧ eOkL l := List.forall_mem_cons
theorem eOkL_nil : eOkL [] := fun _ h => absurd h List.not_mem_nil
theorem eOkL_app {a b : List eV} : eOkL (a ++ b) ↔ eOkL a ∧ eOkL b := List.forall_mem_append
theorem eOkL_get {l : List eV} {k : Nat} {v : eV} (h : eOkL l) (hk : l[k]? = some v) : eOkV v := h v (List.mem_of_getElem? hk)
theorem eOkL_set {l : List eV} {k : Nat} {v : eV} (h : eOkL l) (hv : eOkV v) : eOkL (l.set k v) := fun x hx => by
  rcases List.mem_or_eq_of_mem_set hx with h1 | h1
  · exact h x h1
  · rw [h1]; exact hv
theorem eOkH_get {h : eH} {k : Nat} {c : eC} (hh : eOkH h) (hk : h[k]? = some c) : eOkL c.2 := hh c (List.mem_of_getElem? hk)
theorem eOkH_set {h : eH} {k : Nat} {c : eC} (hh : eOkH h) (hc : eOkL c.2) : eOkH (h.set k c) := fun x hx => by
  rcases List.mem_or_eq_of_mem_set hx with h1 | h1
  · exact hh x h1
  · rw [h1]; exact hc
theorem eOkH_push {h : eH} {c : eC} (hh : eOkH h) (hc : eOkL c.2) : eOkH (h ++ [c]) := fun x hx => by
  rcases List.mem_append.mp hx with h1 | h1
  · exact hh x h1
  · rw [List.mem_singleton.mp h1]; exact hc
theorem w32_ok (x : Int) : -2147483648 ≤ w32 x ∧ w32 x ≤ 2147483647 := by
  have h1 := Int32.le_toInt (Int32.ofInt x)
  have h2 := Int32.toInt_lt (Int32.ofInt x)
  unfold w32
  omega
theorem w32_of {x : Int} (h1 : -2147483648 ≤ x) (h2 : x ≤ 2147483647) : w32 x = x := by
  unfold w32
  exact Int32.toInt_ofInt_of_le (by omega) (by omega)
theorem w32_i (x : Int) : Int32.ofInt (w32 x) = Int32.ofInt x := by
  unfold w32
  exact Int32.ofInt_toInt _
theorem i32_ok (x : Int32) : -2147483648 ≤ x.toInt ∧ x.toInt ≤ 2147483647 := by
  have h1 := Int32.le_toInt x
  have h2 := Int32.toInt_lt x
  omega
/-! what a state has beside the made cells -/
def eWd (g : eGt) (h : eH) (H : Heap) : Prop := 8 ≤ h.length ∧ H.size = g.1 + (h.length - 8) ∧ va_P g.2.2.1 vwCl (eWl g h) H
def eStX (g : eGt) (h : eH) (U : State) : Prop := ∀ (k : Nat) (c : eC), 1 ≤ k → k < 8 → h[k]? = some c → c.1 = 100 ∧ g.2.1 k < g.1 ∧ g.1 ≤ U.heap.size ∧ va_X (g.2.1 k) c.2.length (fun j => Int32.ofInt (eVi (c.2.getD j (.inl 0)))) U U.heap
def eStZ (g : eGt) (U : State) : Prop := g.1 ≤ U.heap.size ∧ ∀ (j : Nat) (f : String × String), eSn[j]? = some f → va_Z f.1 f.2 "[I" (.ref (g.2.1 (j + 1))) (eAr g) U U.heap
def eNwOK (U : State) : Prop := ∀ w ∈ eNw, va_Nw w U
def eAOok (U : State) : Prop := va_AO "LampChanger$Lamp" U ∧ va_AO "LampChanger$Beacon" U
def eS (g : eGt) (h : eH) (U : State) : Prop := eStX g h U ∧ eStZ g U ∧ eNwOK U ∧ eAOok U ∧ va_K g.2.2.1 vwCl (eTys g) U
def ePc (g : eGt) (h : eH) (vs : List eV) : Array Value → State → Prop := va_Pc (vs.map (eTr g)) (fun U => eWd g h U.heap ∧ eS g h U)
def eQc (g : eGt) (r : Option eV) (h' : eH) : Array Value → State → Outcome → State → Prop := fun _ st oc t => oc = .returned (r.map (eTr g)) ∧ eWd g h' t.heap ∧ va_F (eAr g) st t
theorem eS.grown {g : eGt} {h h2 : eH} {U : State} (H : eS g h U) (k : eGr h h2) : eS g h2 U :=
  ⟨fun j c h1 h2' hj => H.1 j c h1 h2' (by rw [← k.2.2 j h2']; exact hj), H.2⟩
theorem eNw_warm {s U : State} (hW : s.WarmedH U.vm) (h : eNwOK s) : eNwOK U := by
  intro w hw
  have h1 := h w hw
  have h2 := (List.mem_filter.mp hw).2
  cases w <;> first | exact va_Nw.warmM hW h1 | exact va_Nw.warmF hW h1 | cases h2
theorem eNw_same {s U : State} (hv : s.vm = U.vm) (h : eNwOK s) : eNwOK U := by
  intro w hw
  have h1 := h w hw
  have h2 := (List.mem_filter.mp hw).2
  cases w <;> first | exact va_Nw.same rfl hv h1 | cases h2
/-- another state with warmer tables, the old cells as they were -/
theorem eS.moved {g : eGt} {h : eH} {s U : State} {locs : List Loc} (hvm : s.vm.Alike U.vm) (hN : eNwOK U) (hS : va_S (eAr g) s.heap U.heap locs) (H : eS g h s) : eS g h U := by
  obtain ⟨hX, ⟨hz, hZ⟩, -, hA, hK⟩ := H
  refine ⟨fun k c h1 h2 hk => ?_, ⟨Nat.le_trans hz hS.1, fun j f hj => ?_⟩, hN, ⟨hA.1.moved hvm, hA.2.moved hvm⟩, va_K.moved hvm hK⟩
  · obtain ⟨e1, e2, e3, e4⟩ := hX k c h1 h2 hk
    exact ⟨e1, e2, Nat.le_trans e3 hS.1, (e4.kept (hS.2.1 _ (Nat.lt_of_lt_of_le e2 e3) (Nat.not_le.mpr e2))).moved hvm⟩
  · exact (va_Z.kept (hZ j f hj) (fun a ha hna => hS.2.1 a ha hna)).moved hvm
theorem ePc_blind {g : eGt} {h : eH} {vs : List eV} : FrameBlind (ePc g h vs) := by
  intro a U gf mk q
  obtain ⟨q0, q1, q2⟩ := q
  exact ⟨q0, q1, q2.moved (U := U.calling gf mk a) (Vm.Alike.refl U.vm) (eNw_same (s := U) (U := U.calling gf mk a) rfl q2.2.2.1) (va_S.rf (H0 := U.heap))⟩
/-! locals -/
theorem eTr_cat (g : eGt) {v : eV} (hv : eC1 v = true) : (eTr g v).category = 1 := by
  rcases v with x | k | w
  · rfl
  · unfold eTr
    by_cases hk : k = 0 <;> simp [hk, Value.category]
  · cases hv
theorem eTr_cat2 (g : eGt) {v : eV} (hv : eC1 v = false) : (eTr g v).category = 2 := by
  rcases v with x | k | w
  · cases hv
  · cases hv
  · rfl
theorem eTr_sum (g : eGt) (st : List eV) : ((st.map (eTr g)).map fun v => v.category).sum = eSm st := by
  induction st with
  | nil => rfl
  | cons v t ih =>
    simp only [List.map_cons, List.sum_cons, eSm, ih]
    cases hv : eC1 v with
    | true => rw [eTr_cat g hv]; simp
    | false => rw [eTr_cat2 g hv]; simp
theorem eSm_2 (st : List eV) : eSm st ≤ 2 * st.length := by
  induction st with
  | nil => exact Nat.le_refl _
  | cons v t ih =>
    simp only [eSm, List.length_cons]
    split <;> omega
theorem eSm_4 {st : List eV} (h : st.length ≤ 4) : eSm st ≤ 8 := Nat.le_trans (eSm_2 st) (by omega)
def eLp (g : eGt) (y : Nat) (ls : List eV) : List (Nat × Value) := (List.range ls.length).filterMap fun i => match ls[i]? with
  | some v => if v = .inr (.inl 0) ∨ ¬ (eC1 v = true ∨ i ∈ eLg y) then none else some (i, eTr g v)
  | none => none
theorem eLp_mem {g : eGt} {y : Nat} {ls : List eV} {q : Nat × Value} : q ∈ eLp g y ls ↔ ∃ v, ls[q.1]? = some v ∧ v ≠ .inr (.inl 0) ∧ (eC1 v = true ∨ q.1 ∈ eLg y) ∧ q.2 = eTr g v := by
  unfold eLp
  rw [List.mem_filterMap]
  constructor
  · rintro ⟨i, hi, h⟩
    cases hv : ls[i]? with
    | none => rw [hv] at h; cases h
    | some v =>
      rw [hv] at h
      by_cases h0 : v = .inr (.inl 0) ∨ ¬ (eC1 v = true ∨ i ∈ eLg y)
      · simp only [if_pos h0] at h
        cases h
      · simp only [if_neg h0, Option.some.injEq] at h
        subst h
        exact ⟨v, hv, fun z => h0 (Or.inl z), Classical.byContradiction fun z => h0 (Or.inr z), rfl⟩
  · rintro ⟨v, hv, h0, h1, h2⟩
    refine ⟨q.1, List.mem_range.mpr (List.getElem?_eq_some_iff.mp hv).1, ?_⟩
    rw [hv]
    simp only [if_neg (show ¬ (v = .inr (.inl 0) ∨ ¬ (eC1 v = true ∨ q.1 ∈ eLg y)) from fun z => z.elim h0 (fun z => z h1)), ← h2]
def eLr (g : eGt) (y : Nat) (ls : List eV) (LS : Array Slot) : Prop := ls.length = eN y ∧ lv_has LS (eN y) (eLp g y ls)
theorem eLr_at {g : eGt} {y : Nat} {ls : List eV} {LS : Array Slot} (h : eLr g y ls LS) {i : Nat} {v : eV} (hi : ls[i]? = some v) (h0 : v ≠ .inr (.inl 0)) (h1 : eC1 v = true ∨ i ∈ eLg y) : LS[i]? = some (.val (eTr g v)) :=
  h.2.2.2 (i, eTr g v) (eLp_mem.mpr ⟨v, hi, h0, h1, rfl⟩)
theorem eLr_set {g : eGt} {y : Nat} {ls : List eV} {LS LS' : Array Slot} (h : eLr g y ls LS) {i : Nat} {v : eV} (hi : i < ls.length) (ho : eLgO y i = true)
    (h2 : lv_has LS' (eN y) ((i, eTr g v) :: (eLp g y ls).filter (fun q => !(q.1 == i) && !(q.1 + 1 == i && q.2.category == 2)))) : eLr g y (ls.set i v) LS' := by
  refine ⟨by simp [h.1], h2.1, h2.2.1, fun q hq => ?_⟩
  obtain ⟨w, hw, h0, hc, hqe⟩ := eLp_mem.mp hq
  by_cases hqi : q.1 = i
  · rw [hqi, List.getElem?_set_self hi] at hw
    cases hw
    have := h2.2.2 (i, eTr g v) List.mem_cons_self
    rw [hqi, hqe]
    exact this
  · rw [List.getElem?_set_ne (fun z => hqi z.symm)] at hw
    refine h2.2.2 q (List.mem_cons_of_mem _ (List.mem_filter.mpr ⟨eLp_mem.mpr ⟨w, hw, h0, hc, hqe⟩, ?_⟩))
    have hn : q.1 + 1 = i → (eTr g w).category = 1 := fun z => by
      rcases hc with hc | hc
      · exact eTr_cat g hc
      · have := List.all_eq_true.mp ho q.1 hc
        simp [z] at this
    rw [hqe]
    by_cases hz : q.1 + 1 = i
    · rw [hn hz]; simp [hqi]
    · simp [hqi, hz]
theorem eLr_setL {g : eGt} {y : Nat} {ls : List eV} {LS LS' : Array Slot} (h : eLr g y ls LS) {i : Nat} {x : Int64} (hi : i + 1 < ls.length) (ho : (eLg y).all (fun s => s + 1 != i) = true)
    (h2 : lv_has LS' (eN y) ((i, Value.long x) :: (eLp g y ls).filter (fun q => !(q.1 == i) && (!(q.1 == i + 1) && !(q.1 + 1 == i && q.2.category == 2))))) : eLr g y ((ls.set i (.inr (.inr x))).set (i + 1) (.inr (.inl 0))) LS' := by
  refine ⟨by simp [h.1], h2.1, h2.2.1, fun q hq => ?_⟩
  obtain ⟨w, hw, h0, hc, hqe⟩ := eLp_mem.mp hq
  by_cases hq1 : q.1 = i + 1
  · rw [hq1, List.getElem?_set_self (by simpa using hi)] at hw
    cases hw
    exact absurd rfl h0
  rw [List.getElem?_set_ne (fun z => hq1 z.symm)] at hw
  by_cases hqi : q.1 = i
  · rw [hqi, List.getElem?_set_self (by omega)] at hw
    cases hw
    have := h2.2.2 (i, Value.long x) List.mem_cons_self
    rw [hqi, hqe]
    exact this
  · rw [List.getElem?_set_ne (fun z => hqi z.symm)] at hw
    refine h2.2.2 q (List.mem_cons_of_mem _ (List.mem_filter.mpr ⟨eLp_mem.mpr ⟨w, hw, h0, hc, hqe⟩, ?_⟩))
    have hn : q.1 + 1 = i → (eTr g w).category = 1 := fun z => by
      rcases hc with hc | hc
      · exact eTr_cat g hc
      · have := List.all_eq_true.mp ho q.1 hc
        simp [z] at this
    rw [hqe]
    by_cases hz : q.1 + 1 = i
    · rw [hn hz]; simp [hqi, hq1]
    · simp [hqi, hq1, hz]
theorem eLv_cons (g : eGt) (v : eV) (t : List eV) : lg_sl ((v :: t).map (eTr g)) = (if (eTr g v).category = 2 then [.val (eTr g v), .second] else [.val (eTr g v)]) ++ lg_sl (t.map (eTr g)) := by
  simp [lg_sl]
theorem eLv_len (g : eGt) (vs : List eV) : (lg_sl (vs.map (eTr g))).length = (eXp vs).length := by
  induction vs with
  | nil => rfl
  | cons v t ih =>
    rw [eLv_cons, List.length_append, ih, show eXp (v :: t) = if eC1 v = true then v :: eXp t else v :: .inr (.inl 0) :: eXp t from rfl]
    cases hv : eC1 v with
    | true => rw [eTr_cat g hv]; simp; omega
    | false => rw [eTr_cat2 g hv]; simp; omega
theorem eLv_args (g : eGt) : ∀ (vs : List eV) (i k : Nat) (v : eV), (eXp vs)[k]? = some v → v ≠ .inr (.inl 0) → (i + k, eTr g v) ∈ lv_args i (vs.map (eTr g))
  | [], i, k, v, h, _ => by simp [eXp] at h
  | w :: t, i, k, v, h, h0 => by
    show (i + k, eTr g v) ∈ (i, eTr g w) :: lv_args (if (eTr g w).category = 2 then i + 2 else i + 1) (t.map (eTr g))
    unfold eXp at h
    cases hw : eC1 w with
    | true =>
      rw [hw, if_pos rfl] at h
      rw [eTr_cat g hw, if_neg (by decide)]
      cases k with
      | zero =>
        simp only [List.getElem?_cons_zero, Option.some.injEq] at h
        subst h
        exact List.mem_cons_self
      | succ k =>
        rw [List.getElem?_cons_succ] at h
        rw [show i + (k + 1) = i + 1 + k by omega]
        exact List.mem_cons_of_mem _ (eLv_args g t (i + 1) k v h h0)
    | false =>
      rw [hw, if_neg (by decide)] at h
      rw [eTr_cat2 g hw, if_pos rfl]
      cases k with
      | zero =>
        simp only [List.getElem?_cons_zero, Option.some.injEq] at h
        subst h
        exact List.mem_cons_self
      | succ k =>
        rw [List.getElem?_cons_succ] at h
        cases k with
        | zero =>
          simp only [List.getElem?_cons_zero, Option.some.injEq] at h
          exact absurd h.symm h0
        | succ k =>
          rw [List.getElem?_cons_succ] at h
          rw [show i + (k + 1 + 1) = i + 2 + k by omega]
          exact List.mem_cons_of_mem _ (eLv_args g t (i + 2) k v h h0)
theorem eLr_entry {g : eGt} {y : Nat} {vs : List eV} (h : (eXp vs).length ≤ eN y) : eLr g y (eLoc y vs) ((lg_sl (vs.map (eTr g)) ++ List.replicate (eN y - (lg_sl (vs.map (eTr g))).length) Slot.unset).toArray) := by
  have hl := eLv_len g vs
  have h1 := lv_entry (vs.map (eTr g)) (n := eN y) (by rw [hl]; exact h)
  refine ⟨by simp [eLoc]; omega, h1.1, h1.2.1, fun q hq => ?_⟩
  obtain ⟨v, hv, h0, hc, hqe⟩ := eLp_mem.mp hq
  unfold eLoc at hv
  by_cases hk : q.1 < (eXp vs).length
  · rw [List.getElem?_append_left hk] at hv
    have := eLv_args g vs 0 q.1 v hv h0
    rw [Nat.zero_add, ← hqe] at this
    exact h1.2.2 q this
  · rw [List.getElem?_append_right (by omega), List.getElem?_replicate] at hv
    split at hv
    · cases hv; exact absurd rfl h0
    · cases hv
theorem eOkL_xp {vs : List eV} (h : eOkL vs) : eOkL (eXp vs) := by
  induction vs with
  | nil => exact eOkL_nil
  | cons v t ih =>
    unfold eXp
    have h2 := eOkL_cons.mp h
    split
    · exact eOkL_cons.mpr ⟨h2.1, ih h2.2⟩
    · exact eOkL_cons.mpr ⟨h2.1, eOkL_cons.mpr ⟨eOkV_r 0, ih h2.2⟩⟩
