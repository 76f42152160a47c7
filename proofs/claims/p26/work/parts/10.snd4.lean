/-! the copy of a row, calls, and the whole -/
theorem e_cpy (l1 l2 : List eV) (sp dp n : Nat) : va_cpy (fun j => Int32.ofInt (eVi (l1.getD j (.inl 0)))) (fun j => Int32.ofInt (eVi (l2.getD j (.inl 0)))) sp dp n = fun j => Int32.ofInt (eVi (if dp ≤ j ∧ j < dp + n then l1.getD (sp + (j - dp)) (.inl 0) else l2.getD j (.inl 0))) := by
  funext j
  dsimp only [va_cpy]
  split <;> rfl
theorem e_arrV {cA : ClassId} {n : Nat} {f1 f2 : Nat → Value} (h : ∀ j, j < n → f1 j = f2 j) : arrV cA n f1 = arrV cA n f2 := by
  unfold arrV
  congr 1
  apply Array.ext
  · simp
  · intro i h1 h2
    simp only [Array.getElem_ofFn]
    exact h i (by simpa using h1)
/-- the copy, out of any int array -/
theorem va_cpy2 {a0 a1 : Nat} {n0 n1 : Nat} {c1 : ClassId} {f0 f1 : Nat → Int32} {cs : Cell} {sp dp n : Nat}
    (hs : cs.slots.size = n0) (hv : ∀ j, j < n0 → cs.slots[j]? = some (.int (f0 j))) (h : sp + n ≤ n0) :
    (arrV c1 n1 (fun j => .int (f1 j))).storeRun dp (cs.stretch sp n) = arrV c1 n1 (fun j => .int (va_cpy f0 f1 sp dp n j)) := by
  have e : cs.stretch sp n = (arrV 0 n0 (fun j => .int (f0 j))).stretch sp n := by
    unfold Cell.stretch
    apply List.map_congr_left
    intro i hi
    have hi' := List.mem_range.mp hi
    rw [Array.getD_eq_getD_getElem?, Array.getD_eq_getD_getElem?, arrV_read _ _ (by omega), hv _ (by omega)]
  rw [e]
  exact va_copied (fun z => .int z) 0 c1 f0 f1 h
section ESTEPS4
variable {f : eK} {y pc k : Nat} {ls st : List eV} {h h' : eH} {r : Option eV}
theorem e_copyW {p : Program} {l : Launch} {e : Env} {R : Room} {s : State} {m : MethodId} {args : Array Value} {below : List Frame} {meth : Method} {c : Code} {H : Heap} {locs : List Loc} {cells slots : Nat} {Q : State → Prop}
    {cc : ByteArray} {LS : Array Slot} {rest : List Value} {g : eGt} (hx : p.tables.exec = Jvm.exec) (hb : c.code = cc) (hml : c.maxLocals = LS.size) {own : String} {index : Nat} (hown : s.vm.findClass own = some m.cls) (hlink : (Cond.methodLink own index arraycopyName).before args s = true) (hnat : (Cond.native arraycopyName).before args s = true) (hstat : (Cond.static arraycopyName).before args s = true) (hini : (Cond.initialized "java/lang/System").before args s = true)
    {ws : va_W} (hK : va_K g.2.2.1 vwCl (eTys g) s) (hP : va_P g.2.2.1 vwCl ws H) (hD : va_D (eAr g) ws) (hS : va_S (eAr g) s.heap H locs) (q1 : Nat) {a0 a1 : Nat} {n0 n1 : Nat} {f0 f1 : Nat → Int32} {cs : Cell}
    (hcs : H[a0]? = some cs) (harr : s.isArrayOf cs .int) (hkn : cs.vm ≠ .unknown) (hsz : cs.slots.size = n0) (hv : ∀ j, j < n0 → cs.slots[j]? = some (.int (f0 j))) (ha1 : ws[q1]? = some (a1, .inl (g.2.2.2 0, n1, .inl f1)))
    {sp dp n : Int32} (h1 : ¬ sp < 0) (h2 : ¬ dp < 0) (h3 : ¬ n < 0) (h4 : sp.toNatClampNeg + n.toNatClampNeg ≤ n0) (h5 : dp.toNatClampNeg + n.toNatClampNeg ≤ n1)
    (hframes : 1 ≤ R.frames) (hlocals : (rest.map fun v => v.category).sum + 18 ≤ R.locals) (hdg : decode cc pc = .ok (.invokestatic index, 3))
    (kk : ∀ (H1 : Heap) (locs1 : List Loc), H1.size = H.size → va_P g.2.2.1 vwCl (ws.set q1 (a1, .inl (g.2.2.2 0, n1, .inl (va_cpy f0 f1 sp.toNatClampNeg dp.toNatClampNeg n.toNatClampNeg)))) H1 → va_S (eAr g) s.heap H1 locs1 → W p l e R s m args below meth c H1 locs1 cells slots Q (F0 m (pc + 3) LS rest)) : W p l e R s m args below meth c H locs cells slots Q (F0 m pc LS (.int n :: .int dp :: .ref a1 :: .int sp :: .ref a0 :: rest)) := by
  have nn : ∀ z : Int32, ¬ z < 0 → z.toInt = (z.toNatClampNeg : Int) := by
    intro z hz
    have hz0 : (0 : Int) ≤ z.toInt := by
      have := Int32.not_lt.mp hz
      simpa using Int32.le_iff_toInt_le.mp this
    show z.toInt = ((z.toInt.toNat : Nat) : Int)
    omega
  intro T hT X
  have hc1 : H[a1]? = some (vp_cell (g.2.2.2 0) (n1, .inl f1)) := hP q1 _ ha1
  obtain ⟨hso, k0, hk0, cm0, hkk0⟩ := harr
  obtain ⟨-, k1, hk1, cm1, hkk1⟩ := (hK.2 0 _ rfl).1 n1 (fun j => .int (f1 j))
  obtain ⟨vm', X', step⟩ := X.arraycopy hx hown hlink hnat hstat hini (src := a0) (dst := a1) (cs := cs) (cd := vp_cell (g.2.2.2 0) (n1, .inl f1)) (srcPos := sp) (destPos := dp) (n := n) (by rw [hT]; exact hcs) (by rw [hT]; exact hc1)
    hso (fun _ h => by cases h) hkn (fun h => by cases h) hk0 hk1 hkk0 hkk1 (show ((refKind .int != refKind .int) || (!refKind .int && (FieldType.int != FieldType.int))) = false by decide) h1 h2 h3
    (by rw [nn sp h1, nn n h3, hsz]; omega)
    (by rw [nn dp h2, nn n h3]; show ¬ _ > ((arrV (g.2.2.2 0) n1 (fun j => .int (f1 j))).slots.size : Int); rw [arrV_size]; omega)
    (fun vm₁ _ i hi => by
      have e1 : cs.slots.getD (sp.toNatClampNeg + i) .null = .int (f0 (sp.toNatClampNeg + i)) := by
        rw [Array.getD_eq_getD_getElem?, hv _ (by omega)]
        rfl
      refine ⟨?_, ?_⟩
      · rw [e1]; rfl
      · rw [e1]; exact trivial)
    (g := F0 m pc LS (.int n :: .int dp :: .ref a1 :: .int sp :: .ref a0 :: rest)) rfl (by rw [hml]) (rest := rest) rfl (by rw [hb]; exact hdg) hframes (by show 2 * 0 + _ + (7 + 11) ≤ _; omega)
  have e1 : copied cs (vp_cell (g.2.2.2 0) (n1, .inl f1)) sp dp n = vp_cell (g.2.2.2 0) (n1, .inl (va_cpy f0 f1 sp.toNatClampNeg dp.toNatClampNeg n.toNatClampNeg)) := va_cpy2 (a0 := a0) (a1 := a1) hsz hv h4
  rw [e1] at X' step
  have hl : a1 < H.size := (Array.getElem?_eq_some_iff.mp hc1).1
  generalize hnew : vp_cell (g.2.2.2 0) (n1, .inl (va_cpy f0 f1 sp.toNatClampNeg dp.toNatClampNeg n.toNatClampNeg)) = newC at X' step
  have hheap : ((T.setVm vm').setCell a1 newC).heap = H.setIfInBounds a1 newC := by rw [← hT]; rfl
  have oq : ∀ q : Nat, q ≠ a1 → (H.setIfInBounds a1 newC)[q]? = H[q]? := fun q hq => by simp [Array.getElem?_setIfInBounds, Ne.symm hq]
  have hA1 : eAr g a1 := hD.2 q1 _ ha1
  obtain ⟨t, b1, b2⟩ := kk (H.setIfInBounds a1 newC) _ (by simp) (hP.set hD ha1 (show (H.setIfInBounds a1 newC)[a1]? = some (vp_cell _ _) by rw [hnew]; simp [Array.getElem?_setIfInBounds, hl]) oq) ⟨by simp; exact hS.1, fun q g1 g2 => by
      rw [oq q (fun e => g2 (by rw [e]; exact hA1))]
      exact hS.2.1 q g1 g2, fun q hq => by
      rcases List.mem_append.mp hq with h | h
      · exact hS.2.2 q h
      · obtain ⟨z, -, hz⟩ := List.mem_map.mp h
        rw [← hz]
        exact hA1⟩ _ hheap X'
  exact ⟨t, step t b1, b2⟩
theorem eCk_copy {o i : Nat} {q : Nat × Nat} (h : eCk o i = some q) : (q.1 = 0 → Cond.methodLink (eR o) i (eY q.2) ∈ eWs ∧ eSt.getD q.2 false = true ∧ q.2 < eMp.length) ∧ (q.1 = 1 → Cond.methodLink (eR o) i (eY q.2) ∈ eWs ∧ eSt.getD q.2 false = false ∧ eI q.2 = false ∧ q.2 < eMp.length) ∧
    (q.1 = 2 → Cond.methodLink (eR o) i (eY q.2) ∈ eWs ∧ eSt.getD q.2 false = false ∧ eI q.2 = true ∧ q.2 < eMp.length) ∧ (q.1 = 3 → (∃ host, Cond.methodLinkNest (eR o) i (eY q.2) host ∈ eNw) ∧ eSt.getD q.2 false = true ∧ q.2 < eMp.length) ∧
    (q.1 = 4 → Cond.methodLink (eR o) i objectInit ∈ eWs) ∧ (q.1 = 5 → Cond.methodLink (eR o) i arraycopyName ∈ eWs) := by
  unfold eCk at h
  obtain ⟨e, he, rfl⟩ := Option.map_eq_some_iff.mp h
  have h1 := List.all_eq_true.mp eCl_ok e (List.mem_of_find?_eq_some he)
  have h2 := List.find?_some he
  simp only [Bool.and_eq_true, beq_iff_eq] at h2
  obtain ⟨h2, h3⟩ := h2
  subst h2; subst h3
  unfold eCchk at h1
  dsimp only
  refine ⟨fun z => ?_, fun z => ?_, fun z => ?_, fun z => ?_, fun z => ?_, fun z => ?_⟩ <;> simp only [z] at h1
  · simp only [if_true, Bool.and_eq_true, decide_eq_true_eq] at h1
    exact ⟨eAt_of h1.1.1, h1.1.2, h1.2⟩
  · simp only [Nat.one_ne_zero, if_false, if_true, Bool.and_eq_true, decide_eq_true_eq, Bool.not_eq_true'] at h1
    exact ⟨eAt_of h1.1.1.1, h1.1.1.2, h1.1.2, h1.2⟩
  · rw [if_neg (by decide), if_neg (by decide), if_pos trivial] at h1
    simp only [Bool.and_eq_true, decide_eq_true_eq, Bool.not_eq_true'] at h1
    exact ⟨eAt_of h1.1.1.1, h1.1.1.2, h1.1.2, h1.2⟩
  · rw [if_neg (by decide), if_neg (by decide), if_neg (by decide), if_pos trivial] at h1
    simp only [Bool.and_eq_true, decide_eq_true_eq] at h1
    obtain ⟨⟨a1, a2⟩, a3⟩ := h1
    refine ⟨?_, a2, a3⟩
    split at a1
    · next a b x host hw =>
      simp only [Bool.and_eq_true, decide_eq_true_eq] at a1
      obtain ⟨⟨rfl, rfl⟩, rfl⟩ := a1
      exact ⟨host, eNw_of hw rfl⟩
    · cases a1
  · rw [if_neg (by decide), if_neg (by decide), if_neg (by decide), if_neg (by decide), if_pos trivial] at h1
    exact eAt_of h1
  · rw [if_neg (by decide), if_neg (by decide), if_neg (by decide), if_neg (by decide), if_neg (by decide), if_pos trivial] at h1
    exact eAt_of h1
theorem xRow_len (l1 l2 : List eV) (sp dp n : Nat) : (xRow l1 l2 sp dp n).length = l2.length := by simp [xRow]
theorem e_xRow (l1 l2 : List eV) (sp : Nat) {dp n : Nat} (hn : dp + n ≤ l2.length) (j : Nat) : (xRow l1 l2 sp dp n).getD j (.inl 0) = if dp ≤ j ∧ j < dp + n then l1.getD (sp + (j - dp)) (.inl 0) else l2.getD j (.inl 0) := by
  unfold xRow
  rw [List.getD_eq_getElem?_getD, List.getElem?_map]
  by_cases hj : j < l2.length
  · rw [List.getElem?_range hj]
    rfl
  · rw [List.getElem?_eq_none (by rw [List.length_range]; omega), if_neg (by omega), List.getD_eq_getElem?_getD, List.getElem?_eq_none (by omega)]
    rfl
theorem sCopy {idx y2 : Nat} (hf : eSnd f) (hq : eCk (eO y) idx = some (5, y2)) (hr : xCopy f y pc ls st h = some (r, h')) (hd : decode (eB y) pc = .ok (.invokestatic idx, 3)) : eConc y pc ls st h r h' := by
  have hlink := (eCk_copy hq).2.2.2.2.2 rfl
  unfold xCopy at hr
  split at hr
  · next n dp d sp sa st =>
    split at hr
    · next cs cd hcs hcd =>
      split at hr
      · next hcond =>
        obtain ⟨t1, t2, hs0, hd8, h1, h2, h3, h4, h5, h6, h7, h9⟩ := hcond
        obtain ⟨ts, l1⟩ := cs
        obtain ⟨td, l2⟩ := cd
        dsimp only at t1 t2 h4 h5 hr
        subst t1; subst t2
        refine eStep (eStpSet hcd (by exact xRow_len _ _ _ _ _) hd8 (fun o1 o2 o3 => ⟨o1, (eOkL_cons.mp (eOkL_cons.mp (eOkL_cons.mp (eOkL_cons.mp (eOkL_cons.mp o2).2).2).2).2).2, ?_⟩) ?_) (hf _ _ _ _ _ _ _ hr)
        · intro v hv
          obtain ⟨j, -, rfl⟩ := List.mem_map.mp hv
          have hg : ∀ (l : List eV) (i : Nat), eOkL l → eOkV (l.getD i (.inl 0)) := by
            intro l i hl
            rw [List.getD_eq_getElem?_getD]
            cases hli : l[i]? with
            | none => exact eOkV_l ok0
            | some v => exact eOkL_get hl hli
          split
          · exact hg _ _ (eOkH_get o3 hcs)
          · exact hg _ _ (eOkH_get o3 hcd)
        intro g p l e R s m args below meth c _ o2 _ C H locs cells slots LS Qt hW hS hL kk
        obtain ⟨hx, hb, hml, hown, hts, hin, hfr, hlo, hSt⟩ := C
        have on := (eOkL_cons.mp o2).1 n rfl
        have odp := (eOkL_cons.mp (eOkL_cons.mp o2).2).1 dp rfl
        have osp := (eOkL_cons.mp (eOkL_cons.mp (eOkL_cons.mp (eOkL_cons.mp o2).2).2).2).1 sp rfl
        have neg : ∀ z : Int, -2147483648 ≤ z ∧ z ≤ 2147483647 → 0 ≤ z → ¬ Int32.ofInt z < 0 := fun z oz h0 q => by have := (i32_lt oz ok0).mp q; omega
        rw [List.map_cons, List.map_cons, List.map_cons, List.map_cons, List.map_cons, eTr_r g (show d ≠ 0 by omega), eTr_r g hs0, eAd_hi g hd8]
        have hget := eWl_get (g := g) hcd hd8
        rw [eEn_int] at hget
        have hsrc : ∃ cs : Cell, H[eAd g sa]? = some cs ∧ s.isArrayOf cs .int ∧ cs.vm ≠ .unknown ∧ cs.slots.size = l1.length ∧ ∀ j, j < l1.length → cs.slots[j]? = some (.int (Int32.ofInt (eVi (l1.getD j (.inl 0))))) := by
          by_cases ha : sa < 8
          · obtain ⟨e1, e2, e3, scr, q1, q2, q3, q4, q5⟩ := hSt.1 sa _ (Nat.pos_of_ne_zero hs0) ha hcs
            rw [eAd_lo g ha]
            exact ⟨scr, by rw [hS.2.1 _ (Nat.lt_of_lt_of_le e2 e3) (Nat.not_le.mpr e2)]; exact q1, q2, q3, q4, q5⟩
          · have hgs := eWl_get (g := g) hcs (Nat.not_lt.mp ha)
            rw [eEn_int] at hgs
            rw [eAd_hi g (Nat.not_lt.mp ha)]
            refine ⟨_, hW.2.2 _ _ hgs, (hSt.2.2.2.2.2 0 _ rfl).1 l1.length (fun j => .int (Int32.ofInt (eVi (l1.getD j (.inl 0))))), (fun q => by cases q), ?_, fun j hj => ?_⟩
            · show (arrV _ _ _).slots.size = _
              rw [arrV_size]
            · show (arrV _ _ _).slots[_]? = _
              rw [arrV_read _ _ hj]
        obtain ⟨cs, g1, g2, g3, g4, g5⟩ := hsrc
        refine e_copyW hx hb (by rw [hml]; exact hL.2.1.symm) hown (hts _ hlink) (hts _ eOther3) (hts _ eOther4) (hts _ eOther5) hSt.2.2.2.2 hW.2.2 eWl_D hS (d - 8) g1 g2 g3 g4 g5 hget (neg sp osp h1) (neg dp odp h2) (neg n on h3)
          (by rw [i32_clamp osp, i32_clamp on]; exact h4) (by rw [i32_clamp odp, i32_clamp on]; exact h5) (by rw [hfr]; exact h7) (by rw [eTr_sum, hlo]; omega) hd fun H1 locs1 z hP1 hS1 => ?_
        refine kk H1 locs1 LS z ?_ hS1 hL
        rw [i32_clamp osp, i32_clamp odp, i32_clamp on, e_cpy] at hP1
        rw [eEn_int, xRow_len]
        simp only [e_xRow l1 l2 sp.toNat h5]
        exact hP1
      · cases hr
    · cases hr
  · cases hr
end ESTEPS4
theorem e_ofW {l : Launch} {y : MethodName} {ws ws' : List Cond} {rm : Room} {Pc : Array Value → State → Prop} {Qc : Array Value → State → Outcome → State → Prop} {mc ms : Nat} {free : Addr → Prop} {cc : ByteArray} {maxL : Nat} {ret : Option FieldType}
    (hy : plainFor y = true) (hw : ws = Cond.code y cc maxL ret :: ws')
    (body : ∀ p e s m args below meth c s₁, BodyLoose p l y (headSpec ws rm) cc maxL ret e s m args below meth c s₁ → c.maxLocals = maxL → Pc args s →
      W p l e (headSpec ws rm).room s m args below meth c s.heap [] 0 0 (MQ below Qc args s mc ms free) (entryFrame m args maxL)) : Met l y ws rm Pc Qc mc ms free := by
  refine MetFree.of_bodySF (code := cc) (maxLocals := maxL) (ret := ret) hy ?_ ?_
  · intro args s m h hn
    obtain ⟨meth, c, h1, h2, h3, h4, h5, h6, -, -⟩ := Cond.code_spec hn (atoms_spec (ws := ws) h _ (by rw [hw]; exact List.mem_cons_self))
    exact ⟨meth, c, h1, h2, h3, h4, h5, h6⟩
  · intro p e s m args below meth c s₁ B hml hP _
    have hh0 : s₁.heap = s.heap := by rw [B.state]; rfl
    obtain ⟨t, a1, o, b1, b2, b3⟩ := body p e s m args below meth c s₁ B hml hP s₁ hh0 (Stand.of_body B)
    exact ⟨t, o, a1, b1, b2, ⟨b3.1, b3.2⟩⟩
def eWy (y : Nat) : List Cond := Cond.code (eY y) (eB y) (eN y) (eT y) :: eWs
theorem eM_spec {y : Nat} (h : y < eMp.length) : (Cond.code (eY y) (eB y) (eN y) (eT y) ∈ eWs) ∧ (if eSt.getD y false = true then Cond.static (eY y) ∈ eWs else Cond.instanceMethod (eY y) ∈ eWs) ∧ (eSt.getD y false = false → eI y = false → Cond.selects (eY y).cls (eY y) (eY y) ∈ eWs) ∧ Cond.initialized (eY y).cls ∈ eWs ∧
    ((parseMethodDescriptor (eY y).desc).map (fun d => d.parameters.length) = some (eA y)) ∧ plainFor (eY y) = true ∧ ((eY y).cls ≠ "java/lang/invoke/MethodHandle" ∧ (eY y).cls ≠ "java/lang/invoke/VarHandle") ∧ eR (eO y) = (eY y).cls ∧ (eI y = true → (eY y).name = "<init>") ∧ (eI y = true → eT y = none) := by
  have h1 := List.all_eq_true.mp eM_ok y (List.mem_range.mpr h)
  unfold eMchk at h1
  split at h1
  · next q hq =>
    simp only [Bool.and_eq_true, decide_eq_true_eq, Bool.or_eq_true] at h1
    obtain ⟨⟨⟨⟨⟨⟨⟨⟨⟨a1, a2⟩, a3⟩, a4⟩, a5⟩, a6⟩, a7⟩, a8⟩, a9⟩, a10⟩ := h1
    refine ⟨eMc_of h, ?_, ?_, eAt_of a3, a4, a5, ⟨a6, a7⟩, a8, a9, a10⟩
    · have := eAt_of a1
      split at this
      · next z => rw [if_pos z]; exact this
      · next z => rw [if_neg z]; exact this
    · intro z1 z2
      rcases a2 with (z | z) | z
      · rw [z1] at z; cases z
      · rw [z2] at z; cases z
      · exact eAt_of z
  · cases h1
section ECALL
variable {f : eK} {y pc k : Nat} {ls st : List eV} {h h' : eH} {r : Option eV}
/-- THE CONTRACT that a run of the evaluator gives -/
theorem eMet (hf : eSnd f) {y : Nat} (hy : y < eMp.length) {vs : List eV} (hr : f y 0 (eLoc y vs) [] h = some (r, h')) (hv : (eXp vs).length ≤ eN y) (o1 : eOkL vs) (o3 : eOkH h) (o4 : 8 ≤ h.length) (g : eGt) (l : Launch) :
    Met l (eY y) (eWy y) ({ frames := eF y, cells := h'.length - h.length, slots := eSz h' - eSz h, locals := eL y } : Room) (ePc g h vs) (eQc g r h') (h'.length - h.length) (eSz h' - eSz h) (eAr g) := by
  obtain ⟨m1, m2, m3, m4, m5, m6, m7, m8, m9, m10⟩ := eM_spec hy
  refine e_ofW (cc := eB y) (maxL := eN y) (ret := eT y) m6 rfl ?_
  intro p e s m args below meth c s₁ B hml hv0
  obtain ⟨rfl, hWd, hSt⟩ := hv0
  have hts := atoms_spec (ws := eWy y) B.pre
  have hown : s.vm.findClass (eR (eO y)) = some m.cls := by rw [m8]; exact findClass_of_methodNamed B.named
  have hnm := (name_of_methodNamed B.named B.method).1
  have hlocks := B.notSynchronized
  have hret := B.returns
  rw [lg_entry_eq]
  have C : eCx g y h p (headSpec (eWy y) ({ frames := eF y, cells := h'.length - h.length, slots := eSz h' - eSz h, locals := eL y } : Room)).room s m (vs.map (eTr g)).toArray meth c :=
    ⟨B.exec, B.bytes, hml, hown, fun w hw => hts w (List.mem_cons_of_mem _ hw), fun hi => hnm.trans (m9 hi), rfl, rfl, hSt⟩
  have okl : eOkL (eLoc y vs) := eOkL_app.mpr ⟨eOkL_xp o1, fun v hv => by rw [List.eq_of_mem_replicate hv]; exact eOkV_r 0⟩
  refine (hf y 0 (eLoc y vs) [] h r h' hr okl eOkL_nil o3 o4).2.2.2 g p l e _ s m _ below meth c C s.heap [] 0 0 _ _ hWd va_S.rf (eLr_entry hv) (by rw [Nat.zero_add]; exact Nat.le_refl _) (by rw [Nat.zero_add]; exact Nat.le_refl _) ?_
  intro H' locs' LS' pc' stv k1 k2 k3
  rw [Nat.zero_add, Nat.zero_add]
  rcases k3 with ⟨rfl, rfl, hd, ht⟩ | ⟨x, rfl, rfl, hd, ty, ht, hn⟩ | ⟨a, rfl, ha, rfl, hd, n, ht⟩ | ⟨x, rfl, rfl, hd, ht⟩
  · exact W.vret B.exec B.bytes (by rw [hret]; exact ht) (fun t ht2 _ => ⟨rfl, by rw [ht2]; exact k1, k2.F ht2⟩) k2.2.2 hd hlocks
  · exact W.zret B.exec B.bytes (by rw [hret]; exact ht) hn (fun t ht2 _ => ⟨rfl, by rw [ht2]; exact k1, k2.F ht2⟩) k2.2.2 hd hlocks
  · exact W.aret B.exec B.bytes (by rw [hret]; exact ht) (Or.inl ⟨n, rfl⟩) (Or.inr ⟨_, rfl⟩) (fun t ht2 _ => ⟨by rw [Option.map_some, eTr_r g ha], by rw [ht2]; exact k1, k2.F ht2⟩) k2.2.2 hd hlocks
  · exact W.lret B.exec B.bytes (by rw [hret]; exact ht) (fun t ht2 _ => ⟨rfl, by rw [ht2]; exact k1, k2.F ht2⟩) k2.2.2 hd hlocks
theorem e_call {p : Program} {l : Launch} {e : Env} {R : Room} {s : State} {m : MethodId} {args : Array Value} {below : List Frame} {meth : Method} {c : Code} {H H0 : Heap} {locs : List Loc} {cells slots mc ms pc : Nat} {Q : State → Prop} {LS : Array Slot} {st0 rest : List Value} {g : eGt} {a : Array Value}
    (hr : va_Run p l e R s m args below meth c H locs cells slots mc ms (F0 m pc LS st0) rest (eQc g r h' a) (eAr g)) (hS : va_S (eAr g) H0 H locs)
    (kk : ∀ (H1 : Heap) (locs1 : List Loc), eWd g h' H1 → va_S (eAr g) H0 H1 locs1 → W p l e R s m args below meth c H1 locs1 (cells + mc) (slots + ms) Q (F0 m (pc + 3) LS ((r.map (eTr g)).toList ++ rest))) : W p l e R s m args below meth c H locs cells slots Q (F0 m pc LS st0) := by
  intro T hT X
  obtain ⟨v, st₀, t, T', L, h0, X', hL, e1, e2, ⟨hv, hb, hz, hk⟩, stp⟩ := hr T hT X
  cases hv
  rw [h0] at hz hk
  obtain ⟨t2, a1, b1⟩ := kk T'.heap (locs ++ L) (by rw [e1]; exact hb)
    ⟨Nat.le_trans hS.1 (by rw [e1]; exact hz), fun q h1 h2 => by rw [e1, hk q (Nat.lt_of_lt_of_le h1 hS.1) h2]; exact hS.2.1 q h1 h2, fun q hq => by
      rcases List.mem_append.mp hq with h | h
      · exact hS.2.2 q h
      · exact hL q h⟩ T' rfl X'
  exact ⟨t2, stp t2 a1, b1⟩
theorem e_pay {y2 : Nat} {s : State} {args : Array Value} (hts : ∀ w ∈ eWs, w.before args s = true) (hy : y2 < eMp.length) : ∀ w ∈ eWy y2, ∀ (a' : Array Value) (U : State), s.WarmedH U.vm → w.before a' U = true := by
  intro w hw a' U hW
  have hw2 : w ∈ eWs := by
    rcases List.mem_cons.mp hw with h | h
    · rw [h]; exact (eM_spec hy).1
    · exact h
  exact word_at hW (good_of_word (eWs_good hw2)) (hts w hw2)
theorem e_sig {y2 : Nat} (hy : y2 < eMp.length) : ∀ sig, parseMethodDescriptor (eY y2).desc = some sig → eA y2 = sig.parameters.length := by
  intro sig h
  have := (eM_spec hy).2.2.2.2.1
  rw [h] at this
  exact (Option.some.inj this).symm
theorem e_pre {g : eGt} {s : State} {H : Heap} {locs : List Loc} (vs : List eV) (hW : eWd g h H) (hS : va_S (eAr g) s.heap H locs) (hSt : eS g h s) : PreS s H (ePc g h vs) (vs.map (eTr g)) :=
  ⟨ePc_blind, fun U hU hWm => ⟨rfl, by rw [hU]; exact hW, hSt.moved (locs := locs) hWm.alike (eNw_warm hWm hSt.2.2.1) (by rw [hU]; exact hS)⟩⟩
/-- a call, whatever its kind: what the kind's own row of the kit gives is 'hcall' -/
theorem sRun {y2 : Nat} {vs st2 : List eV} (hf : eSnd f) (hy : y2 < eMp.length) (hr : xRun f y pc y2 vs ls st2 h = some (r, h')) (hok : eOkL st → eOkL vs ∧ eOkL st2)
    (hcall : ∀ (r1 : Option eV) (h1 : eH) (g : eGt) (p : Program) (l : Launch) (e : Env) (R : Room) (s : State) (m : MethodId) (args : Array Value) (below : List Frame) (meth : Method) (c : Code),
      eCx g y h p R s m args meth c → ∀ (H : Heap) (locs : List Loc) (cells slots : Nat) (LS : Array Slot), eWd g h H → va_S (eAr g) s.heap H locs → eLr g y ls LS → cells + (h1.length - h.length) ≤ R.cells → slots + (eSz h1 - eSz h) ≤ R.slots → eF y2 + 1 ≤ R.frames → 8 + (eN y2 + 11) + eL y2 ≤ R.locals → eSm st2 ≤ 8 →
      Met l (eY y2) (eWy y2) ({ frames := eF y2, cells := h1.length - h.length, slots := eSz h1 - eSz h, locals := eL y2 } : Room) (ePc g h vs) (eQc g r1 h1) (h1.length - h.length) (eSz h1 - eSz h) (eAr g) →
      ∃ a : Array Value, va_Run p l e R s m args below meth c H locs cells slots (h1.length - h.length) (eSz h1 - eSz h) (F0 m pc LS (st.map (eTr g))) (st2.map (eTr g)) (eQc g r1 h1 a) (eAr g)) : eConc y pc ls st h r h' := by
  unfold xRun at hr
  split at hr
  · next hcond =>
    obtain ⟨hroom, hlen, hst⟩ := hcond
    split at hr
    · next q hq =>
      obtain ⟨r1, h1⟩ := q
      dsimp only at hr
      refine eStep ?_ (hf _ _ _ _ _ _ _ hr)
      intro o1 o2 o3 o4
      obtain ⟨p1, p2⟩ := hok o2
      have okl : eOkL (eLoc y2 vs) := eOkL_app.mpr ⟨eOkL_xp p1, fun v hv => by rw [List.eq_of_mem_replicate hv]; exact eOkV_r 0⟩
      obtain ⟨c1, c2, c3, -⟩ := hf y2 0 (eLoc y2 vs) [] h r1 h1 hq okl eOkL_nil o3 o4
      refine ⟨⟨o1, eOkL_app.mpr ⟨?_, p2⟩, c2, c3⟩, ?_⟩
      · intro v hv
        cases r1 with
        | none => cases hv
        | some w => rw [Option.toList_some, List.mem_singleton] at hv; rw [hv]; exact c1 w rfl
      intro g p l e R s m args below meth c C H locs cells slots LS Qt hW hS hL hc hs kk
      simp only [eRoom, Bool.and_eq_true, decide_eq_true_eq] at hroom
      obtain ⟨a, hrun⟩ := hcall r1 h1 g p l e R s m args below meth c C H locs cells slots LS hW hS hL hc hs (by rw [C.2.2.2.2.2.2.1]; exact hroom.1) (by rw [C.2.2.2.2.2.2.2.1]; exact hroom.2) hst (eMet hf hy hq hlen p1 o3 o4 g l)
      refine e_call hrun hS fun H1 locs1 hW1 hS1 => ?_
      have := kk H1 locs1 LS hW1 hS1 hL
      cases r1 <;> exact this
    · cases hr
  · cases hr
end ECALL
