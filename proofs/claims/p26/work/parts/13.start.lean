theorem e_eqi {args : Array Value} {s : State} {t : Term} {z : Int32} (h : (Cond.eq t (.int z)).before args s = true) : t.eval args s none [] s = some (.int z) := by
  cases hv : t.eval args s none [] s with
  | none => simp [Cond.before, Cond.holds, Cond.value, hv] at h
  | some w =>
    have hz : (Term.int z).eval args s none [] s = some (.int z) := rfl
    simp only [Cond.before, Cond.holds, Cond.value, hv, hz] at h
    cases w <;> simp_all
theorem e_statArr {args : Array Value} {s : State} {t : Term} {vals : List Int} (hlen : (Cond.eq (.length t) (.int (Int32.ofNat vals.length))).before args s = true) (harr : (Cond.arrayOf t .int).before args s = true)
    (hv : ∀ i, i < vals.length → (Cond.eq (.elem t (.int (Int32.ofNat i))) (.int (Int32.ofInt (vals.getD i 0)))).before args s = true) (hl : vals.length < 2147483648 := by decide) :
    ∃ a : Nat, t.eval args s none [] s = some (.ref a) ∧ va_X a vals.length (fun j => Int32.ofInt (eVi ((vals.map fun z => (.inl z : eV)).getD j (.inl 0)))) s s.heap ∧ a < s.heap.size := by
  have h1 := e_eqi hlen
  obtain ⟨a, cell, ht, hcell, he⟩ := Term.length_spec h1
  obtain ⟨hcb, hkn, -, -⟩ := State.arrayAt?_spec hcell
  have h2 := Cond.arrayOf_spec harr ht hcb
  have hsz : cell.slots.size < 2147483648 := by
    simp only [Term.eval, ht, hcell, Option.bind_eq_bind, Option.bind_some] at h1
    by_cases hlt : cell.slots.size < 2147483648
    · exact hlt
    · simp [hlt] at h1
  have hsz2 : cell.slots.size = vals.length := by
    have e1 : Int32.ofNat vals.length = Int32.ofNat cell.slots.size := Value.int.inj he
    have e2 := congrArg Int32.toNatClampNeg e1
    rw [show (Int32.ofNat vals.length).toNatClampNeg = vals.length from nI_clamp (by omega), show (Int32.ofNat cell.slots.size).toNatClampNeg = cell.slots.size from nI_clamp (by omega)] at e2
    exact e2.symm
  refine ⟨a, ht, ⟨cell, hcb, h2.1, h2.2, hsz2, fun j hj => ?_⟩, (Array.getElem?_eq_some_iff.mp hcb).1⟩
  obtain ⟨a', j', cell', ht', hj', hcell', -, hs'⟩ := Term.elem_spec (e_eqi (hv j hj))
  cases ht.symm.trans ht'
  cases hcell.symm.trans hcell'
  have e3 : j' = Int32.ofNat j := by
    have : (Term.int (Int32.ofNat j)).eval args s none [] s = some (.int (Int32.ofNat j)) := rfl
    rw [this] at hj'
    cases hj'
    rfl
  subst e3
  rw [show (Int32.ofNat j).toNatClampNeg = j from nI_clamp (by omega)] at hs'
  rw [hs']
  dsimp only
  rw [List.getD_eq_getElem?_getD, List.getD_eq_getElem?_getD, List.getElem?_map, List.getElem?_eq_getElem hj]
  rfl
/-! the start: the eight first cells; statics by their values at the start -/
def eLaw : Nat := 111
def eSv : List (List Int) := [[80, 2, 2, 0], [400, 700, 200], [1000, 1400, 700], [10, 15, 5], [75, 1, 1, 0], [99, 5, 5, 1]]
theorem eLaw_B : eB eLaw = code := rfl
theorem eLaw_N : eN eLaw = 10 := rfl
theorem eLaw_F : room_1.frames = eF eLaw := rfl
theorem eLaw_L : room_1.locals = eL eLaw := rfl
theorem eStA_1 {args : Array Value} {s : State} (hts : ∀ w ∈ lw_tbl, w.before args s = true) (hgv : (Jvm.Cond.and given_1 narrow_1).before args s = true) : ∃ a : Nat, (Term.static "LampChanger" "FIRST_SETTINGS" "[I").eval args s none [] s = some (.ref a) ∧ va_X a 4 (fun j => Int32.ofInt (eVi (([.inl 80, .inl 2, .inl 2, .inl 0] : List eV).getD j (.inl 0)))) s s.heap ∧ a < s.heap.size ∧ (Cond.laysStatic "LampChanger" "FIRST_SETTINGS" "[I").before args s = true ∧ (Cond.initialized "LampChanger").before args s = true := by
  have hs := flat_of_before _ hgv
  obtain ⟨a, h1, h2, h3⟩ := e_statArr (t := .static "LampChanger" "FIRST_SETTINGS" "[I") (vals := [80, 2, 2, 0]) (hs _ (by decide +kernel)) (hs _ (by decide +kernel)) (by
    intro i hi
    rcases (show i = 0 ∨ i = 1 ∨ i = 2 ∨ i = 3 from (by simp only [List.length_cons, List.length_nil] at hi; omega)) with rfl | rfl | rfl | rfl <;> exact hs _ (by decide +kernel))
  exact ⟨a, h1, h2, h3, hts _ (List.mem_of_getElem? (i := 45) (by decide +kernel)), hts _ (List.mem_of_getElem? (i := 19) (by decide +kernel))⟩
theorem eStA_2 {args : Array Value} {s : State} (hts : ∀ w ∈ lw_tbl, w.before args s = true) (hgv : (Jvm.Cond.and given_1 narrow_1).before args s = true) : ∃ a : Nat, (Term.static "LampChanger$Lamp" "LIVES" "[I").eval args s none [] s = some (.ref a) ∧ va_X a 3 (fun j => Int32.ofInt (eVi (([.inl 400, .inl 700, .inl 200] : List eV).getD j (.inl 0)))) s s.heap ∧ a < s.heap.size ∧ (Cond.laysStatic "LampChanger$Lamp" "LIVES" "[I").before args s = true ∧ (Cond.initialized "LampChanger$Lamp").before args s = true := by
  have hs := flat_of_before _ hgv
  obtain ⟨a, h1, h2, h3⟩ := e_statArr (t := .static "LampChanger$Lamp" "LIVES" "[I") (vals := [400, 700, 200]) (hs _ (by decide +kernel)) (hs _ (by decide +kernel)) (by
    intro i hi
    rcases (show i = 0 ∨ i = 1 ∨ i = 2 from (by simp only [List.length_cons, List.length_nil] at hi; omega)) with rfl | rfl | rfl <;> exact hs _ (by decide +kernel))
  exact ⟨a, h1, h2, h3, hts _ (List.mem_of_getElem? (i := 394) (by decide +kernel)), hts _ (List.mem_of_getElem? (i := 23) (by decide +kernel))⟩
theorem eStA_3 {args : Array Value} {s : State} (hts : ∀ w ∈ lw_tbl, w.before args s = true) (hgv : (Jvm.Cond.and given_1 narrow_1).before args s = true) : ∃ a : Nat, (Term.static "LampChanger$Lamp" "NOMINAL_CURRENTS" "[I").eval args s none [] s = some (.ref a) ∧ va_X a 3 (fun j => Int32.ofInt (eVi (([.inl 1000, .inl 1400, .inl 700] : List eV).getD j (.inl 0)))) s s.heap ∧ a < s.heap.size ∧ (Cond.laysStatic "LampChanger$Lamp" "NOMINAL_CURRENTS" "[I").before args s = true ∧ (Cond.initialized "LampChanger$Lamp").before args s = true := by
  have hs := flat_of_before _ hgv
  obtain ⟨a, h1, h2, h3⟩ := e_statArr (t := .static "LampChanger$Lamp" "NOMINAL_CURRENTS" "[I") (vals := [1000, 1400, 700]) (hs _ (by decide +kernel)) (hs _ (by decide +kernel)) (by
    intro i hi
    rcases (show i = 0 ∨ i = 1 ∨ i = 2 from (by simp only [List.length_cons, List.length_nil] at hi; omega)) with rfl | rfl | rfl <;> exact hs _ (by decide +kernel))
  exact ⟨a, h1, h2, h3, hts _ (List.mem_of_getElem? (i := 500) (by decide +kernel)), hts _ (List.mem_of_getElem? (i := 23) (by decide +kernel))⟩
theorem eStA_4 {args : Array Value} {s : State} (hts : ∀ w ∈ lw_tbl, w.before args s = true) (hgv : (Jvm.Cond.and given_1 narrow_1).before args s = true) : ∃ a : Nat, (Term.static "LampChanger$Lamp" "WEARS_BY_SWITCHING_ON" "[I").eval args s none [] s = some (.ref a) ∧ va_X a 3 (fun j => Int32.ofInt (eVi (([.inl 10, .inl 15, .inl 5] : List eV).getD j (.inl 0)))) s s.heap ∧ a < s.heap.size ∧ (Cond.laysStatic "LampChanger$Lamp" "WEARS_BY_SWITCHING_ON" "[I").before args s = true ∧ (Cond.initialized "LampChanger$Lamp").before args s = true := by
  have hs := flat_of_before _ hgv
  obtain ⟨a, h1, h2, h3⟩ := e_statArr (t := .static "LampChanger$Lamp" "WEARS_BY_SWITCHING_ON" "[I") (vals := [10, 15, 5]) (hs _ (by decide +kernel)) (hs _ (by decide +kernel)) (by
    intro i hi
    rcases (show i = 0 ∨ i = 1 ∨ i = 2 from (by simp only [List.length_cons, List.length_nil] at hi; omega)) with rfl | rfl | rfl <;> exact hs _ (by decide +kernel))
  exact ⟨a, h1, h2, h3, hts _ (List.mem_of_getElem? (i := 489) (by decide +kernel)), hts _ (List.mem_of_getElem? (i := 23) (by decide +kernel))⟩
theorem eStA_5 {args : Array Value} {s : State} (hts : ∀ w ∈ lw_tbl, w.before args s = true) (hgv : (Jvm.Cond.and given_1 narrow_1).before args s = true) : ∃ a : Nat, (Term.static "LampChanger" "LOWEST_SETTINGS" "[I").eval args s none [] s = some (.ref a) ∧ va_X a 4 (fun j => Int32.ofInt (eVi (([.inl 75, .inl 1, .inl 1, .inl 0] : List eV).getD j (.inl 0)))) s s.heap ∧ a < s.heap.size ∧ (Cond.laysStatic "LampChanger" "LOWEST_SETTINGS" "[I").before args s = true ∧ (Cond.initialized "LampChanger").before args s = true := by
  have hs := flat_of_before _ hgv
  obtain ⟨a, h1, h2, h3⟩ := e_statArr (t := .static "LampChanger" "LOWEST_SETTINGS" "[I") (vals := [75, 1, 1, 0]) (hs _ (by decide +kernel)) (hs _ (by decide +kernel)) (by
    intro i hi
    rcases (show i = 0 ∨ i = 1 ∨ i = 2 ∨ i = 3 from (by simp only [List.length_cons, List.length_nil] at hi; omega)) with rfl | rfl | rfl | rfl <;> exact hs _ (by decide +kernel))
  exact ⟨a, h1, h2, h3, hts _ (List.mem_of_getElem? (i := 309) (by decide +kernel)), hts _ (List.mem_of_getElem? (i := 19) (by decide +kernel))⟩
theorem eStA_6 {args : Array Value} {s : State} (hts : ∀ w ∈ lw_tbl, w.before args s = true) (hgv : (Jvm.Cond.and given_1 narrow_1).before args s = true) : ∃ a : Nat, (Term.static "LampChanger" "HIGHEST_SETTINGS" "[I").eval args s none [] s = some (.ref a) ∧ va_X a 4 (fun j => Int32.ofInt (eVi (([.inl 99, .inl 5, .inl 5, .inl 1] : List eV).getD j (.inl 0)))) s s.heap ∧ a < s.heap.size ∧ (Cond.laysStatic "LampChanger" "HIGHEST_SETTINGS" "[I").before args s = true ∧ (Cond.initialized "LampChanger").before args s = true := by
  have hs := flat_of_before _ hgv
  obtain ⟨a, h1, h2, h3⟩ := e_statArr (t := .static "LampChanger" "HIGHEST_SETTINGS" "[I") (vals := [99, 5, 5, 1]) (hs _ (by decide +kernel)) (hs _ (by decide +kernel)) (by
    intro i hi
    rcases (show i = 0 ∨ i = 1 ∨ i = 2 ∨ i = 3 from (by simp only [List.length_cons, List.length_nil] at hi; omega)) with rfl | rfl | rfl | rfl <;> exact hs _ (by decide +kernel))
  exact ⟨a, h1, h2, h3, hts _ (List.mem_of_getElem? (i := 312) (by decide +kernel)), hts _ (List.mem_of_getElem? (i := 19) (by decide +kernel))⟩
def eH0 (L : Nat) (xs : Nat → Int32) : eH := ((999, []) : eC) :: (eSv.map fun l => ((100, l.map fun z => (.inl z : eV)) : eC)) ++ [(100, (List.range L).map fun j => (.inl (xs j).toInt : eV))]
theorem eH0_len (L : Nat) (xs : Nat → Int32) : (eH0 L xs).length = 8 := rfl
theorem eH0_get (L : Nat) (xs : Nat → Int32) {k : Nat} {c : eC} (h1 : 1 ≤ k) (h8 : k < 8) (h : (eH0 L xs)[k]? = some c) : (∃ l, eSv[k - 1]? = some l ∧ c = (100, l.map fun z => (.inl z : eV))) ∨ (k = 7 ∧ c = (100, (List.range L).map fun j => (.inl (xs j).toInt : eV))) := by
  rcases (show k = 1 ∨ k = 2 ∨ k = 3 ∨ k = 4 ∨ k = 5 ∨ k = 6 ∨ k = 7 by omega) with rfl | rfl | rfl | rfl | rfl | rfl | rfl <;> cases h
  · exact Or.inl ⟨_, rfl, rfl⟩
  · exact Or.inl ⟨_, rfl, rfl⟩
  · exact Or.inl ⟨_, rfl, rfl⟩
  · exact Or.inl ⟨_, rfl, rfl⟩
  · exact Or.inl ⟨_, rfl, rfl⟩
  · exact Or.inl ⟨_, rfl, rfl⟩
  · exact Or.inr ⟨rfl, rfl⟩
theorem eH0_ok (L : Nat) (xs : Nat → Int32) : eOkH (eH0 L xs) := by
  intro c hc
  unfold eH0 at hc
  rcases List.mem_append.mp hc with hc | hc
  · rcases List.mem_cons.mp hc with hc | hc
    · rw [hc]; exact eOkL_nil
    · obtain ⟨l, hl, rfl⟩ := List.mem_map.mp hc
      intro v hv
      obtain ⟨z, hz, rfl⟩ := List.mem_map.mp hv
      have : eSv.all (fun l => l.all fun z => decide (-2147483648 ≤ z) && decide (z ≤ 2147483647)) = true := by decide +kernel
      have h2 := List.all_eq_true.mp (List.all_eq_true.mp this l hl) z hz
      simp only [Bool.and_eq_true, decide_eq_true_eq] at h2
      exact eOkV_l h2
  · rw [List.mem_singleton.mp hc]
    intro v hv
    obtain ⟨j, -, rfl⟩ := List.mem_map.mp hv
    exact eOkV_l (i32_ok _)
theorem e_known {args : Array Value} {s : State} (hts : ∀ w ∈ eWs, w.before args s = true) : ∃ (dC : Nat → ClassId) (dI : Nat → Nat → Nat), ∀ (k : Nat) (q : vw_C), vwCl[k]? = some q → u_Kn s q.1 q.2.1 q.2.2 (dC k) (dI k) := by
  have h : ∀ k : Nat, ∃ (z : ClassId × (Nat → Nat)), ∀ q : vw_C, vwCl[k]? = some q → u_Kn s q.1 q.2.1 q.2.2 z.1 z.2 := by
    intro k
    cases hk : vwCl[k]? with
    | none => exact ⟨(0, fun _ => 0), fun q hq => by cases hq⟩
    | some q =>
      obtain ⟨C, T, N⟩ := q
      obtain ⟨v1, v2, -⟩ := eV_spec hk
      obtain ⟨cC, iS, hKn⟩ := u_known hts v1 (hts _ v2)
      exact ⟨(cC, iS), fun q hq => by cases hq; exact hKn⟩
  exact ⟨fun k => (Classical.choose (h k)).1, fun k => (Classical.choose (h k)).2, fun k q hq => Classical.choose_spec (h k) q hq⟩
theorem e_arrs {args : Array Value} {s : State} (hts : ∀ w ∈ lw_tbl, w.before args s = true) : ∃ aC : Nat → ClassId, ∀ (k : Nat) (q : ClassId × FieldType), ([(aC 0, .int), (aC 1, .char), (aC 2, .object "LampChanger$Lamp"), (aC 3, .object "LampChanger$Beacon"), (aC 4, .long)] : List (ClassId × FieldType))[k]? = some q → ArrOfT s q.1 q.2 ∧ va_RA s q.1 q.2 := by
  obtain ⟨c0, k0, m0, a1, a2, a3⟩ := Cond.arrayClass_spec (hts _ (List.mem_filter.mp eOther6).1)
  obtain ⟨c1, k1, m1, b1, b2, b3⟩ := Cond.arrayClass_spec (hts _ (List.mem_filter.mp eOther7).1)
  obtain ⟨m2, c2, k2, d1, d2, d3, d4, d5⟩ := Cond.arrayOver_spec (hts (.arrayOver (.object "LampChanger$Lamp")) (by decide +kernel))
  obtain ⟨m3, c3, k3, f1, f2, f3, f4, f5⟩ := Cond.arrayOver_spec (hts (.arrayOver (.object "LampChanger$Beacon")) (by decide +kernel))
  obtain ⟨c4, k4, m4, i1, i2, i3⟩ := Cond.arrayClass_spec (hts _ (List.mem_filter.mp eOther8).1)
  refine ⟨fun j => if j = 0 then c0 else if j = 1 then c1 else if j = 2 then c2 else if j = 3 then c3 else c4, fun k q hq => ?_⟩
  match k, hq with
  | 0, hq => cases hq; exact ⟨fun n z => ⟨fun k h => (by cases h), k0, a2, m0, a3⟩, a1⟩
  | 1, hq => cases hq; exact ⟨fun n z => ⟨fun k h => (by cases h), k1, b2, m1, b3⟩, b1⟩
  | 2, hq => cases hq; exact ⟨fun n z => ⟨fun k h => (by cases h), k2, d3, m2, d4⟩, k2, m2, d3, d4, d1, d5⟩
  | 3, hq => cases hq; exact ⟨fun n z => ⟨fun k h => (by cases h), k3, f3, m3, f4⟩, k3, m3, f3, f4, f1, f5⟩
  | 4, hq => cases hq; exact ⟨fun n z => ⟨fun k h => (by cases h), k4, i2, m4, i3⟩, i1⟩
  | n + 5, hq => simp at hq
theorem e_start {p : Program} {e : Env} {s : State} {m : MethodId} {below : List Frame} {meth : Method} {c : Code} (l : Launch) {b L : Nat} {xs : Nat → Int32} (C0 : lw_At p s m meth c b L xs)
    (hrun : ∃ (n : Nat) (h' : eH), ex n eLaw 0 (eLoc eLaw [.inr (.inl 7)]) [] (eH0 L xs) = some (some (.inl 1), h') ∧ h'.length ≤ 623108 ∧ eSz h' ≤ 7232947) :
    W p l e room_1 s m #[Value.ref b] below meth c s.heap [] 0 0 (lw_Z below #[Value.ref b] s) (entryFrame m ([Value.ref b] : List Value).toArray 10) := by
  obtain ⟨hx, hb, hr, hml, hown, hts, hX, hbl, hlocks, hgv⟩ := C0
  obtain ⟨n, h', hrun, hc, hs⟩ := hrun
  have hts2 : ∀ w ∈ eWs, w.before #[Value.ref b] s = true := fun w hw => hts w (List.mem_filter.mp hw).1
  obtain ⟨dC, dI, hKn⟩ := e_known hts2
  obtain ⟨aC, hAr⟩ := e_arrs hts
  obtain ⟨a1, t1, u1, v1, w1, x1⟩ := eStA_1 hts hgv
  obtain ⟨a2, t2, u2, v2, w2, x2⟩ := eStA_2 hts hgv
  obtain ⟨a3, t3, u3, v3, w3, x3⟩ := eStA_3 hts hgv
  obtain ⟨a4, t4, u4, v4, w4, x4⟩ := eStA_4 hts hgv
  obtain ⟨a5, t5, u5, v5, w5, x5⟩ := eStA_5 hts hgv
  obtain ⟨a6, t6, u6, v6, w6, x6⟩ := eStA_6 hts hgv
  let g : eGt := (s.heap.size, (fun k => if k = 1 then a1 else if k = 2 then a2 else if k = 3 then a3 else if k = 4 then a4 else if k = 5 then a5 else if k = 6 then a6 else b), (dC, dI), aC)
  have hnA : ∀ a : Nat, a < s.heap.size → ¬ eAr g a := fun a ha => Nat.not_le.mpr ha
  have hSt : eS g (eH0 L xs) s := by
    refine ⟨?_, ⟨Nat.le_refl _, ?_⟩, ?_, ⟨va_AO.of (A := #[Value.ref b]) (hts _ (by decide +kernel)), va_AO.of (A := #[Value.ref b]) (hts _ (by decide +kernel))⟩, hKn, hAr⟩
    · intro k cc h1 h8 hk
      rcases eH0_get L xs h1 h8 hk with ⟨ll, hl, rfl⟩ | ⟨rfl, rfl⟩
      · rcases (show k = 1 ∨ k = 2 ∨ k = 3 ∨ k = 4 ∨ k = 5 ∨ k = 6 ∨ k = 7 by omega) with rfl | rfl | rfl | rfl | rfl | rfl | rfl <;> cases hl
        · exact ⟨rfl, v1, Nat.le_refl _, u1⟩
        · exact ⟨rfl, v2, Nat.le_refl _, u2⟩
        · exact ⟨rfl, v3, Nat.le_refl _, u3⟩
        · exact ⟨rfl, v4, Nat.le_refl _, u4⟩
        · exact ⟨rfl, v5, Nat.le_refl _, u5⟩
        · exact ⟨rfl, v6, Nat.le_refl _, u6⟩
      · refine ⟨rfl, hbl, Nat.le_refl _, ?_⟩
        obtain ⟨scr, q1, q2, q3, q4, q5⟩ := hX
        refine ⟨scr, q1, q2, q3, by simp [q4], fun j hj => ?_⟩
        have hj2 : j < L := by simpa using hj
        rw [q5 j hj2]
        dsimp only
        rw [List.getD_eq_getElem?_getD, List.getElem?_map, List.getElem?_range hj2]
        simp [eVi]
    · intro j fd hj
      rcases (show j = 0 ∨ j = 1 ∨ j = 2 ∨ j = 3 ∨ j = 4 ∨ j = 5 by
        have := (List.getElem?_eq_some_iff.mp hj).1
        have h6 : eSn.length = 6 := by decide +kernel
        omega) with rfl | rfl | rfl | rfl | rfl | rfl <;> cases hj
      · exact va_Zof w1 x1 t1 hnA
      · exact va_Zof w2 x2 t2 hnA
      · exact va_Zof w3 x3 t3 hnA
      · exact va_Zof w4 x4 t4 hnA
      · exact va_Zof w5 x5 t5 hnA
      · exact va_Zof w6 x6 t6 hnA
    · intro w hw
      have h2 := List.mem_filter.mp hw
      have h3 := hts w h2.1
      have h4 := h2.2
      cases w <;> first | exact va_Nw.of rfl h3 | cases h4
  have CX : eCx g eLaw (eH0 L xs) p room_1 s m #[Value.ref b] meth c := ⟨hx, hb.trans eLaw_B.symm, hml, hown, hts2, fun h => (by cases h), eLaw_F, eLaw_L, hSt⟩
  have hWd : eWd g (eH0 L xs) s.heap := ⟨Nat.le_refl _, rfl, fun k q hq => by simp [eWl, eH0_len] at hq⟩
  rw [lg_entry_eq]
  have hL0 : eLr g eLaw (eLoc eLaw [.inr (.inl 7)]) _ := eLr_entry (g := g) (y := eLaw) (vs := [.inr (.inl 7)]) (by decide)
  have okl : eOkL (eLoc eLaw [.inr (.inl 7)]) := eOkL_app.mpr ⟨eOkL_cons.mpr ⟨eOkV_r 7, eOkL_nil⟩, fun v hv => by rw [List.eq_of_mem_replicate hv]; exact eOkV_r 0⟩
  have hlen : (eH0 L xs).length = 8 := eH0_len L xs
  refine (ex_snd n eLaw 0 (eLoc eLaw [.inr (.inl 7)]) [] (eH0 L xs) (some (.inl 1)) h' hrun okl eOkL_nil (eH0_ok L xs) (Nat.le_refl _)).2.2.2 g p l e room_1 s m _ below meth c CX s.heap [] 0 0 _ _ hWd va_S.rf hL0 (by show _ ≤ 623100; omega) (by show _ ≤ 7232947; omega) ?_
  intro H' locs' LS' pc' stv k1 k2 k3
  rcases k3 with ⟨z, -⟩ | ⟨x, hx1, rfl, hd, -⟩ | ⟨a, z, -⟩ | ⟨a, z, -⟩
  · cases z
  · cases hx1
    refine va_forget (fun q hq => k2.2.2 q hq) ?_
    refine W.widen (k := 623100) (n := 7232947) (by omega) (by omega) ?_
    rw [eLaw_B] at hd
    exact lw_ret hx hb hr hlocks hd
  · cases z
  · cases z
