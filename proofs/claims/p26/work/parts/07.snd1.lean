/-! what the evaluator answers, the machine does: the form, and the instructions that touch no cell -/
def eRet (g : eGt) (y pc : Nat) (r : Option eV) (stv : List Value) : Prop :=
  (r = none ∧ stv = [] ∧ decode (eB y) pc = .ok (.return_, 1) ∧ eT y = none) ∨
  (∃ x : Int, r = some (.inl x) ∧ stv = [.int (Int32.ofInt x)] ∧ decode (eB y) pc = .ok (.ireturn, 1) ∧ ∃ ty, eT y = some ty ∧ narrow ty (.int (Int32.ofInt x)) = .int (Int32.ofInt x)) ∨
  (∃ a : Nat, r = some (.inr (.inl a)) ∧ a ≠ 0 ∧ stv = [.ref (eAd g a)] ∧ decode (eB y) pc = .ok (.areturn, 1) ∧ ∃ n, eT y = some (.object n)) ∨
  (∃ x : Int64, r = some (.inr (.inr x)) ∧ stv = [.long x] ∧ decode (eB y) pc = .ok (.lreturn, 1) ∧ eT y = some .long)
def eCx (g : eGt) (y : Nat) (h : eH) (p : Program) (R : Room) (s : State) (m : MethodId) (args : Array Value) (meth : Method) (c : Code) : Prop :=
  p.tables.exec = Jvm.exec ∧ c.code = eB y ∧ c.maxLocals = eN y ∧ s.vm.findClass (eR (eO y)) = some m.cls ∧ (∀ w ∈ eWs, w.before args s = true) ∧ (eI y = true → meth.name = "<init>") ∧ R.frames = eF y ∧ R.locals = eL y ∧ eS g h s
def eConc (y pc : Nat) (ls st : List eV) (h : eH) (r : Option eV) (h' : eH) : Prop :=
  eOkL ls → eOkL st → eOkH h → 8 ≤ h.length → eOkR r ∧ eOkH h' ∧ eGr h h' ∧
  ∀ (g : eGt) (p : Program) (l : Launch) (e : Env) (R : Room) (s : State) (m : MethodId) (args : Array Value) (below : List Frame) (meth : Method) (c : Code),
    eCx g y h p R s m args meth c → ∀ (H : Heap) (locs : List Loc) (cells slots : Nat) (LS : Array Slot) (Qt : State → Prop), eWd g h H → va_S (eAr g) s.heap H locs → eLr g y ls LS →
      cells + (h'.length - h.length) ≤ R.cells → slots + (eSz h' - eSz h) ≤ R.slots →
      (∀ (H' : Heap) (locs' : List Loc) (LS' : Array Slot) (pc' : Nat) (stv : List Value), eWd g h' H' → va_S (eAr g) s.heap H' locs' → eRet g y pc' r stv →
        W p l e R s m args below meth c H' locs' (cells + (h'.length - h.length)) (slots + (eSz h' - eSz h)) Qt (F0 m pc' LS' stv)) →
      W p l e R s m args below meth c H locs cells slots Qt (F0 m pc LS (st.map (eTr g)))
def eSnd (f : eK) : Prop := ∀ (y pc : Nat) (ls st : List eV) (h : eH) (r : Option eV) (h' : eH), f y pc ls st h = some (r, h') → eConc y pc ls st h r h'
def eStp (y pc : Nat) (ls st : List eV) (h : eH) (pc2 : Nat) (ls2 st2 : List eV) (h2 : eH) : Prop :=
  eOkL ls → eOkL st → eOkH h → 8 ≤ h.length → (eOkL ls2 ∧ eOkL st2 ∧ eOkH h2 ∧ eGr h h2) ∧
  ∀ (g : eGt) (p : Program) (l : Launch) (e : Env) (R : Room) (s : State) (m : MethodId) (args : Array Value) (below : List Frame) (meth : Method) (c : Code),
    eCx g y h p R s m args meth c → ∀ (H : Heap) (locs : List Loc) (cells slots : Nat) (LS : Array Slot) (Qt : State → Prop), eWd g h H → va_S (eAr g) s.heap H locs → eLr g y ls LS →
      cells + (h2.length - h.length) ≤ R.cells → slots + (eSz h2 - eSz h) ≤ R.slots →
      (∀ (H2 : Heap) (locs2 : List Loc) (LS2 : Array Slot), eWd g h2 H2 → va_S (eAr g) s.heap H2 locs2 → eLr g y ls2 LS2 →
        W p l e R s m args below meth c H2 locs2 (cells + (h2.length - h.length)) (slots + (eSz h2 - eSz h)) Qt (F0 m pc2 LS2 (st2.map (eTr g)))) →
      W p l e R s m args below meth c H locs cells slots Qt (F0 m pc LS (st.map (eTr g)))
theorem eStep {y pc pc2 : Nat} {ls ls2 st st2 : List eV} {h h2 h' : eH} {r : Option eV} (S : eStp y pc ls st h pc2 ls2 st2 h2) (IH : eConc y pc2 ls2 st2 h2 r h') : eConc y pc ls st h r h' := by
  intro o1 o2 o3 o4
  obtain ⟨⟨p1, p2, p3, p4⟩, S⟩ := S o1 o2 o3 o4
  obtain ⟨q1, q2, q3, IH⟩ := IH p1 p2 p3 (Nat.le_trans o4 p4.1)
  refine ⟨q1, q2, p4.trans q3, ?_⟩
  intro g p l e R s m args below meth c C H locs cells slots LS Qt hW hS hL hc hs hend
  have a1 := p4.1
  have a2 := p4.2.1
  have a3 := q3.1
  have a4 := q3.2.1
  refine S g p l e R s m args below meth c C H locs cells slots LS Qt hW hS hL (by omega) (by omega) ?_
  intro H2 locs2 LS2 hW2 hS2 hL2
  obtain ⟨c1, c2, c3, c4, c5, c6, c7, c8, c9⟩ := C
  refine IH g p l e R s m args below meth c ⟨c1, c2, c3, c4, c5, c6, c7, c8, c9.grown p4⟩ H2 locs2 _ _ LS2 Qt hW2 hS2 hL2 (by omega) (by omega) ?_
  intro H' locs' LS' pc' stv k1 k2 k3
  have := hend H' locs' LS' pc' stv k1 k2 k3
  rw [show cells + (h2.length - h.length) + (h'.length - h2.length) = cells + (h'.length - h.length) by omega, show slots + (eSz h2 - eSz h) + (eSz h' - eSz h2) = slots + (eSz h' - eSz h) by omega]
  exact this
theorem eStp0 {y pc pc2 : Nat} {ls ls2 st st2 : List eV} {h : eH} (hok : eOkL ls → eOkL st → eOkH h → eOkL ls2 ∧ eOkL st2)
    (hW : ∀ (g : eGt) (p : Program) (l : Launch) (e : Env) (R : Room) (s : State) (m : MethodId) (args : Array Value) (below : List Frame) (meth : Method) (c : Code), eOkL ls → eOkL st → eOkH h →
      eCx g y h p R s m args meth c → ∀ (H : Heap) (locs : List Loc) (cells slots : Nat) (LS : Array Slot) (Qt : State → Prop), eWd g h H → va_S (eAr g) s.heap H locs → eLr g y ls LS →
      (∀ LS2 : Array Slot, eLr g y ls2 LS2 → W p l e R s m args below meth c H locs cells slots Qt (F0 m pc2 LS2 (st2.map (eTr g)))) →
      W p l e R s m args below meth c H locs cells slots Qt (F0 m pc LS (st.map (eTr g)))) : eStp y pc ls st h pc2 ls2 st2 h := by
  intro o1 o2 o3 o4
  refine ⟨⟨(hok o1 o2 o3).1, (hok o1 o2 o3).2, o3, eGr.refl⟩, ?_⟩
  intro g p l e R s m args below meth c C H locs cells slots LS Qt hw hS hL hc hs kk
  refine hW g p l e R s m args below meth c o1 o2 o3 C H locs cells slots LS Qt hw hS hL ?_
  intro LS2 hL2
  have := kk H locs LS2 hw hS hL2
  simpa only [Nat.sub_self, Nat.add_zero] using this
section ESTEPS
variable {f : eK} {y pc pc2 k : Nat} {ls st : List eV} {h h' : eH} {r : Option eV}
theorem sAld (hf : eSnd f) (hr : xAld f y pc2 k ls st h = some (r, h')) (hd : (decode (eB y) pc = .ok (.aload k, 2) ∧ pc2 = pc + 2) ∨ ∃ q : Fin 4, (q : Nat) = k ∧ decode (eB y) pc = .ok (.aload_n q, 1) ∧ pc2 = pc + 1) : eConc y pc ls st h r h' := by
  unfold xAld at hr
  split at hr
  · next a ha =>
    split at hr
    · cases hr
    · next h0 =>
      refine eStep (eStp0 (fun o1 o2 _ => ⟨o1, eOkL_cons.mpr ⟨eOkV_r a, o2⟩⟩) ?_) (hf _ _ _ _ _ _ _ hr)
      intro g p l e R s m args below meth c _ _ _ C H locs cells slots LS Qt hW hS hL kk
      obtain ⟨hx, hb, -⟩ := C
      have hat := eLr_at hL ha (fun z => h0 (by cases z; rfl)) (Or.inl rfl)
      have k2 := kk LS hL
      have e1 : eTr g (.inr (.inl a)) = .ref (eAd g a) := by simp [eTr, h0]
      rw [e1] at hat
      rw [List.map_cons, e1] at k2
      rcases hd with ⟨hd, rfl⟩ | ⟨q, hq, hd, rfl⟩
      · exact lv_aload hx hb hd hat k2
      · exact lv_aload_n hx hb hd hq hat k2
  · cases hr
theorem sIld (hf : eSnd f) (hr : xIld f y pc2 k ls st h = some (r, h')) (hd : (decode (eB y) pc = .ok (.iload k, 2) ∧ pc2 = pc + 2) ∨ ∃ q : Fin 4, (q : Nat) = k ∧ decode (eB y) pc = .ok (.iload_n q, 1) ∧ pc2 = pc + 1) : eConc y pc ls st h r h' := by
  unfold xIld at hr
  split at hr
  · next x ha =>
    refine eStep (eStp0 (fun o1 o2 _ => ⟨o1, eOkL_cons.mpr ⟨eOkL_get o1 ha, o2⟩⟩) ?_) (hf _ _ _ _ _ _ _ hr)
    intro g p l e R s m args below meth c _ _ _ C H locs cells slots LS Qt hW hS hL kk
    obtain ⟨hx, hb, -⟩ := C
    have hat := eLr_at hL ha (fun z => by cases z) (Or.inl rfl)
    have k2 := kk LS hL
    rcases hd with ⟨hd, rfl⟩ | ⟨q, hq, hd, rfl⟩
    · exact lv_iload hx hb hd hat k2
    · exact lv_iload_n hx hb hd hq hat k2
  · cases hr
theorem sAst (hf : eSnd f) (hr : xAst f y pc2 k ls st h = some (r, h')) (hd : (decode (eB y) pc = .ok (.astore k, 2) ∧ pc2 = pc + 2) ∨ ∃ q : Fin 4, (q : Nat) = k ∧ decode (eB y) pc = .ok (.astore_n q, 1) ∧ pc2 = pc + 1) : eConc y pc ls st h r h' := by
  unfold xAst at hr
  split at hr
  · next a st =>
    split at hr
    · cases hr
    · next h0 =>
      split at hr
      · next hk =>
        refine eStep (eStp0 (fun o1 o2 _ => ⟨eOkL_set o1 (eOkV_r a), (eOkL_cons.mp o2).2⟩) ?_) (hf _ _ _ _ _ _ _ hr)
        intro g p l e R s m args below meth c _ _ _ C H locs cells slots LS Qt hW hS hL kk
        obtain ⟨hx, hb, -⟩ := C
        have e1 : eTr g (.inr (.inl a)) = .ref (eAd g a) := by simp [eTr, h0]
        rw [List.map_cons, e1]
        rcases hd with ⟨hd, rfl⟩ | ⟨q, hq, hd, rfl⟩
        · refine lv_astore hx hb hd hL.2 (by rw [← hL.1]; exact hk.1) rfl fun LS2 h2 => kk LS2 (eLr_set hL hk.1 hk.2 ?_)
          rw [e1]; exact h2
        · refine lv_astore_n hx hb hd hq hL.2 (by rw [← hL.1]; exact hk.1) rfl fun LS2 h2 => kk LS2 (eLr_set hL hk.1 hk.2 ?_)
          rw [e1]; exact h2
      · cases hr
  · cases hr
theorem sIst (hf : eSnd f) (hr : xIst f y pc2 k ls st h = some (r, h')) (hd : (decode (eB y) pc = .ok (.istore k, 2) ∧ pc2 = pc + 2) ∨ ∃ q : Fin 4, (q : Nat) = k ∧ decode (eB y) pc = .ok (.istore_n q, 1) ∧ pc2 = pc + 1) : eConc y pc ls st h r h' := by
  unfold xIst at hr
  split at hr
  · next x st =>
    split at hr
    · next hk =>
      refine eStep (eStp0 (fun o1 o2 _ => ⟨eOkL_set o1 (eOkL_cons.mp o2).1, (eOkL_cons.mp o2).2⟩) ?_) (hf _ _ _ _ _ _ _ hr)
      intro g p l e R s m args below meth c _ _ _ C H locs cells slots LS Qt hW hS hL kk
      obtain ⟨hx, hb, -⟩ := C
      rcases hd with ⟨hd, rfl⟩ | ⟨q, hq, hd, rfl⟩
      · exact lv_istore hx hb hd hL.2 (by rw [← hL.1]; exact hk.1) rfl fun LS2 h2 => kk LS2 (eLr_set hL hk.1 hk.2 h2)
      · exact lv_istore_n hx hb hd hq hL.2 (by rw [← hL.1]; exact hk.1) rfl fun LS2 h2 => kk LS2 (eLr_set hL hk.1 hk.2 h2)
    · cases hr
  · cases hr
theorem sConst {n : Int} {len : Nat} (hf : eSnd f) (hr : xPush f y (pc + len) (.inl n) ls st h = some (r, h')) (hw : w32 n = n)
    (hW : ∀ (g : eGt) (p : Program) (l : Launch) (e : Env) (R : Room) (s : State) (m : MethodId) (args : Array Value) (below : List Frame) (meth : Method) (c : Code) (H : Heap) (locs : List Loc) (cells slots : Nat) (LS : Array Slot) (Qt : State → Prop) (rest : List Value),
      eCx g y h p R s m args meth c → W p l e R s m args below meth c H locs cells slots Qt (F0 m (pc + len) LS (.int (Int32.ofInt n) :: rest)) → W p l e R s m args below meth c H locs cells slots Qt (F0 m pc LS rest)) : eConc y pc ls st h r h' := by
  unfold xPush at hr
  refine eStep (eStp0 (fun o1 o2 _ => ⟨o1, eOkL_cons.mpr ⟨eOkV_l (by rw [← hw]; exact w32_ok n), o2⟩⟩) ?_) (hf _ _ _ _ _ _ _ hr)
  intro g p l e R s m args below meth c _ _ _ C H locs cells slots LS Qt hW' hS hL kk
  exact hW g p l e R s m args below meth c H locs cells slots LS Qt _ C (kk LS hL)
theorem sBin {op : Int → Int → Int} (hf : eSnd f) (hr : xBin f y (pc + 1) op ls st h = some (r, h')) (hop : ∀ a b, -2147483648 ≤ op a b ∧ op a b ≤ 2147483647)
    (hW : ∀ (g : eGt) (p : Program) (l : Launch) (e : Env) (R : Room) (s : State) (m : MethodId) (args : Array Value) (below : List Frame) (meth : Method) (c : Code) (H : Heap) (locs : List Loc) (cells slots : Nat) (LS : Array Slot) (Qt : State → Prop) (rest : List Value) (a b : Int),
      eCx g y h p R s m args meth c → -2147483648 ≤ a ∧ a ≤ 2147483647 → -2147483648 ≤ b ∧ b ≤ 2147483647 → W p l e R s m args below meth c H locs cells slots Qt (F0 m (pc + 1) LS (.int (Int32.ofInt (op a b)) :: rest)) → W p l e R s m args below meth c H locs cells slots Qt (F0 m pc LS (.int (Int32.ofInt b) :: .int (Int32.ofInt a) :: rest))) : eConc y pc ls st h r h' := by
  unfold xBin at hr
  split at hr
  · next b a st =>
    refine eStep (eStp0 (fun o1 o2 _ => ⟨o1, eOkL_cons.mpr ⟨eOkV_l (hop a b), (eOkL_cons.mp (eOkL_cons.mp o2).2).2⟩⟩) ?_) (hf _ _ _ _ _ _ _ hr)
    intro g p l e R s m args below meth c _ o2 _ C H locs cells slots LS Qt hW' hS hL kk
    exact hW g p l e R s m args below meth c H locs cells slots LS Qt _ a b C ((eOkL_cons.mp (eOkL_cons.mp o2).2).1 a rfl) ((eOkL_cons.mp o2).1 b rfl) (kk LS hL)
  · cases hr
theorem sBin0 {op : Int → Int → Int} (hf : eSnd f) (hr : xBin0 f y (pc + 1) op ls st h = some (r, h')) (hop : ∀ a b, -2147483648 ≤ op a b ∧ op a b ≤ 2147483647)
    (hW : ∀ (g : eGt) (p : Program) (l : Launch) (e : Env) (R : Room) (s : State) (m : MethodId) (args : Array Value) (below : List Frame) (meth : Method) (c : Code) (H : Heap) (locs : List Loc) (cells slots : Nat) (LS : Array Slot) (Qt : State → Prop) (rest : List Value) (a b : Int),
      eCx g y h p R s m args meth c → -2147483648 ≤ a ∧ a ≤ 2147483647 → -2147483648 ≤ b ∧ b ≤ 2147483647 → b ≠ 0 → W p l e R s m args below meth c H locs cells slots Qt (F0 m (pc + 1) LS (.int (Int32.ofInt (op a b)) :: rest)) → W p l e R s m args below meth c H locs cells slots Qt (F0 m pc LS (.int (Int32.ofInt b) :: .int (Int32.ofInt a) :: rest))) : eConc y pc ls st h r h' := by
  unfold xBin0 at hr
  split at hr
  · next b a st =>
    split at hr
    · cases hr
    · next h0 =>
      refine eStep (eStp0 (fun o1 o2 _ => ⟨o1, eOkL_cons.mpr ⟨eOkV_l (hop a b), (eOkL_cons.mp (eOkL_cons.mp o2).2).2⟩⟩) ?_) (hf _ _ _ _ _ _ _ hr)
      intro g p l e R s m args below meth c _ o2 _ C H locs cells slots LS Qt hW' hS hL kk
      exact hW g p l e R s m args below meth c H locs cells slots LS Qt _ a b C ((eOkL_cons.mp (eOkL_cons.mp o2).2).1 a rfl) ((eOkL_cons.mp o2).1 b rfl) h0 (kk LS hL)
  · cases hr
theorem i32_lt {a b : Int} (ha : -2147483648 ≤ a ∧ a ≤ 2147483647) (hb : -2147483648 ≤ b ∧ b ≤ 2147483647) : Int32.ofInt a < Int32.ofInt b ↔ a < b := by
  rw [Int32.lt_iff_toInt_lt]
  show w32 a < w32 b ↔ _
  rw [w32_of ha.1 ha.2, w32_of hb.1 hb.2]
theorem i32_le {a b : Int} (ha : -2147483648 ≤ a ∧ a ≤ 2147483647) (hb : -2147483648 ≤ b ∧ b ≤ 2147483647) : Int32.ofInt a ≤ Int32.ofInt b ↔ a ≤ b := by
  rw [Int32.le_iff_toInt_le]
  show w32 a ≤ w32 b ↔ _
  rw [w32_of ha.1 ha.2, w32_of hb.1 hb.2]
theorem i32_eq {a b : Int} (ha : -2147483648 ≤ a ∧ a ≤ 2147483647) (hb : -2147483648 ≤ b ∧ b ≤ 2147483647) : Int32.ofInt a = Int32.ofInt b ↔ a = b := by
  constructor
  · intro q
    have h1 : w32 a = w32 b := by unfold w32; rw [q]
    rwa [w32_of ha.1 ha.2, w32_of hb.1 hb.2] at h1
  · rintro rfl; rfl
theorem sJ {ls2 st2 : List eV} {off : Int} (hf : eSnd f) (hr : eJ f y pc off ls2 st2 h = some (r, h')) (hok : eOkL ls → eOkL st → eOkL ls2 ∧ eOkL st2)
    (hW : ∀ (tgt : Nat), (pc : Int) + off = (tgt : Int) → ∀ (g : eGt) (p : Program) (l : Launch) (e : Env) (R : Room) (s : State) (m : MethodId) (args : Array Value) (below : List Frame) (meth : Method) (c : Code), eOkL ls → eOkL st →
      eCx g y h p R s m args meth c → ∀ (H : Heap) (locs : List Loc) (cells slots : Nat) (LS : Array Slot) (Qt : State → Prop), eLr g y ls LS →
      (∀ LS2 : Array Slot, eLr g y ls2 LS2 → W p l e R s m args below meth c H locs cells slots Qt (F0 m tgt LS2 (st2.map (eTr g)))) →
      W p l e R s m args below meth c H locs cells slots Qt (F0 m pc LS (st.map (eTr g)))) : eConc y pc ls st h r h' := by
  unfold eJ at hr
  split at hr
  · next h0 =>
    refine eStep (eStp0 (fun o1 o2 _ => hok o1 o2) ?_) (hf _ _ _ _ _ _ _ hr)
    intro g p l e R s m args below meth c o1 o2 _ C H locs cells slots LS Qt _ _ hL kk
    exact hW _ (by omega) g p l e R s m args below meth c o1 o2 C H locs cells slots LS Qt hL kk
  · cases hr
theorem ok0 : -2147483648 ≤ (0 : Int) ∧ (0 : Int) ≤ 2147483647 := by decide
theorem sIf {cnd : Jvm.ClassFile.Cond} {off : Int} (hf : eSnd f) (hr : xIf f y pc cnd off ls st h = some (r, h')) (hd : decode (eB y) pc = .ok (.ifCond cnd off, 3)) : eConc y pc ls st h r h' := by
  unfold xIf at hr
  split at hr
  · next a st =>
    split at hr
    · next h0 =>
      have ht : (pc : Int) + off = (((pc : Int) + off).toNat : Int) := by omega
      have hW : ∀ (g : eGt) (p : Program) (l : Launch) (e : Env) (R : Room) (s : State) (m : MethodId) (args : Array Value) (below : List Frame) (meth : Method) (c : Code), eOkL (.inl a :: st) → eCx g y h p R s m args meth c → ∀ (H : Heap) (locs : List Loc) (cells slots : Nat) (LS : Array Slot) (Qt : State → Prop),
          (eCmp cnd a 0 = true → W p l e R s m args below meth c H locs cells slots Qt (F0 m ((pc : Int) + off).toNat LS (st.map (eTr g)))) → (eCmp cnd a 0 = false → W p l e R s m args below meth c H locs cells slots Qt (F0 m (pc + 3) LS (st.map (eTr g)))) →
          W p l e R s m args below meth c H locs cells slots Qt (F0 m pc LS ((List.cons (.inl a) st).map (eTr g))) := by
        intro g p l e R s m args below meth c o2 C H locs cells slots LS Qt kt kf
        obtain ⟨hx, hb, -⟩ := C
        have oa := (eOkL_cons.mp o2).1 a rfl
        cases cnd <;> simp only [eCmp, decide_eq_true_eq, decide_eq_false_iff_not] at kt kf
        · exact lv_if_eq hx hb hd ht (fun z => kt ((i32_eq oa ok0).mp z)) (fun z => kf (fun q => z ((i32_eq oa ok0).mpr q)))
        · exact lv_if_ne hx hb hd ht (fun z => kt (fun q => z ((i32_eq oa ok0).mpr q))) (fun z => kf (fun q => q ((i32_eq oa ok0).mp z)))
        · exact lv_if_lt hx hb hd ht (fun z => kt ((i32_lt oa ok0).mp z)) (fun z => kf (fun q => z ((i32_lt oa ok0).mpr q)))
        · exact lv_if_ge hx hb hd ht (fun z => kt ((i32_le ok0 oa).mp z)) (fun z => kf (fun q => z ((i32_le ok0 oa).mpr q)))
        · exact lv_if_gt hx hb hd ht (fun z => kt ((i32_lt ok0 oa).mp z)) (fun z => kf (fun q => z ((i32_lt ok0 oa).mpr q)))
        · exact lv_if_le hx hb hd ht (fun z => kt ((i32_le oa ok0).mp z)) (fun z => kf (fun q => z ((i32_le oa ok0).mpr q)))
      split at hr
      · next hc =>
        refine eStep (eStp0 (fun o1 o2 _ => ⟨o1, (eOkL_cons.mp o2).2⟩) ?_) (hf _ _ _ _ _ _ _ hr)
        intro g p l e R s m args below meth c _ o2 _ C H locs cells slots LS Qt _ _ hL kk
        exact hW g p l e R s m args below meth c o2 C H locs cells slots LS Qt (fun _ => kk LS hL) (fun z => absurd (hc.symm.trans z) (by decide))
      · next hc =>
        refine eStep (eStp0 (fun o1 o2 _ => ⟨o1, (eOkL_cons.mp o2).2⟩) ?_) (hf _ _ _ _ _ _ _ hr)
        intro g p l e R s m args below meth c _ o2 _ C H locs cells slots LS Qt _ _ hL kk
        exact hW g p l e R s m args below meth c o2 C H locs cells slots LS Qt (fun z => absurd z hc) (fun _ => kk LS hL)
    · cases hr
  · cases hr
theorem sIcmp {cnd : Jvm.ClassFile.Cond} {off : Int} (hf : eSnd f) (hr : xIcmp f y pc cnd off ls st h = some (r, h')) (hd : decode (eB y) pc = .ok (.if_icmp cnd off, 3)) : eConc y pc ls st h r h' := by
  unfold xIcmp at hr
  split at hr
  · next b a st =>
    split at hr
    · next h0 =>
      have ht : (pc : Int) + off = (((pc : Int) + off).toNat : Int) := by omega
      have hW : ∀ (g : eGt) (p : Program) (l : Launch) (e : Env) (R : Room) (s : State) (m : MethodId) (args : Array Value) (below : List Frame) (meth : Method) (c : Code), eOkL (.inl b :: .inl a :: st) → eCx g y h p R s m args meth c → ∀ (H : Heap) (locs : List Loc) (cells slots : Nat) (LS : Array Slot) (Qt : State → Prop),
          (eCmp cnd a b = true → W p l e R s m args below meth c H locs cells slots Qt (F0 m ((pc : Int) + off).toNat LS (st.map (eTr g)))) → (eCmp cnd a b = false → W p l e R s m args below meth c H locs cells slots Qt (F0 m (pc + 3) LS (st.map (eTr g)))) →
          W p l e R s m args below meth c H locs cells slots Qt (F0 m pc LS ((List.cons (.inl b) (.inl a :: st)).map (eTr g))) := by
        intro g p l e R s m args below meth c o2 C H locs cells slots LS Qt kt kf
        obtain ⟨hx, hb, -⟩ := C
        have oa := (eOkL_cons.mp (eOkL_cons.mp o2).2).1 a rfl
        have ob := (eOkL_cons.mp o2).1 b rfl
        cases cnd <;> simp only [eCmp, decide_eq_true_eq, decide_eq_false_iff_not] at kt kf
        · exact lv_icmp_eq hx hb hd ht (fun z => kt ((i32_eq oa ob).mp z)) (fun z => kf (fun q => z ((i32_eq oa ob).mpr q)))
        · exact lv_icmp_ne hx hb hd ht (fun z => kt (fun q => z ((i32_eq oa ob).mpr q))) (fun z => kf (fun q => q ((i32_eq oa ob).mp z)))
        · exact lv_icmp_lt hx hb hd ht (fun z => kt ((i32_lt oa ob).mp z)) (fun z => kf (fun q => z ((i32_lt oa ob).mpr q)))
        · exact lv_icmp_ge hx hb hd ht (fun z => kt ((i32_le ob oa).mp z)) (fun z => kf (fun q => z ((i32_le ob oa).mpr q)))
        · exact lv_icmp_gt hx hb hd ht (fun z => kt ((i32_lt ob oa).mp z)) (fun z => kf (fun q => z ((i32_lt ob oa).mpr q)))
        · exact lv_icmp_le hx hb hd ht (fun z => kt ((i32_le oa ob).mp z)) (fun z => kf (fun q => z ((i32_le oa ob).mpr q)))
      split at hr
      · next hc =>
        refine eStep (eStp0 (fun o1 o2 _ => ⟨o1, (eOkL_cons.mp (eOkL_cons.mp o2).2).2⟩) ?_) (hf _ _ _ _ _ _ _ hr)
        intro g p l e R s m args below meth c _ o2 _ C H locs cells slots LS Qt _ _ hL kk
        exact hW g p l e R s m args below meth c o2 C H locs cells slots LS Qt (fun _ => kk LS hL) (fun z => absurd (hc.symm.trans z) (by decide))
      · next hc =>
        refine eStep (eStp0 (fun o1 o2 _ => ⟨o1, (eOkL_cons.mp (eOkL_cons.mp o2).2).2⟩) ?_) (hf _ _ _ _ _ _ _ hr)
        intro g p l e R s m args below meth c _ o2 _ C H locs cells slots LS Qt _ _ hL kk
        exact hW g p l e R s m args below meth c o2 C H locs cells slots LS Qt (fun z => absurd z hc) (fun _ => kk LS hL)
    · cases hr
  · cases hr
theorem sNul {jump : Bool} {off : Int} (hf : eSnd f) (hr : xNul f y pc jump off ls st h = some (r, h')) (hd : decode (eB y) pc = .ok (if jump then .ifnonnull off else .ifnull off, 3)) : eConc y pc ls st h r h' := by
  unfold xNul at hr
  split at hr
  · next a st =>
    split at hr
    · cases hr
    · next h0 =>
      have e1 : ∀ g : eGt, eTr g (.inr (.inl a)) = .ref (eAd g a) := fun g => by simp [eTr, h0]
      cases jump with
      | true =>
        simp only [if_true] at hr hd
        refine sJ hf hr (fun o1 o2 => ⟨o1, (eOkL_cons.mp o2).2⟩) ?_
        intro tgt ht g p l e R s m args below meth c _ o2 C H locs cells slots LS Qt hL kk
        obtain ⟨hx, hb, -⟩ := C
        rw [List.map_cons, e1]
        exact lv_ifnonnull hx hb hd ht (kk LS hL)
      | false =>
        simp only [Bool.false_eq_true, if_false] at hr hd
        refine eStep (eStp0 (fun o1 o2 _ => ⟨o1, (eOkL_cons.mp o2).2⟩) ?_) (hf _ _ _ _ _ _ _ hr)
        intro g p l e R s m args below meth c _ o2 _ C H locs cells slots LS Qt _ _ hL kk
        obtain ⟨hx, hb, -⟩ := C
        rw [List.map_cons, e1]
        exact lv_ifnull hx hb hd (kk LS hL)
  · cases hr
theorem sTable {dflt lo hi : Int} {offs : Array Int} {len : Nat} (hf : eSnd f) (hd : decode (eB y) pc = .ok (.tableswitch dflt lo hi offs, len))
    (hr : (match st with
    | .inl x :: st => if x < lo ∨ hi < x then eJ f y pc dflt ls st h else (match offs[(x - lo).toNat]? with
      | some off => eJ f y pc off ls st h
      | none => none)
    | _ => none) = some (r, h')) : eConc y pc ls st h r h' := by
  split at hr
  · next x st =>
    split at hr
    · next hc =>
      refine sJ hf hr (fun o1 o2 => ⟨o1, (eOkL_cons.mp o2).2⟩) ?_
      intro tgt ht g p l e R s m args below meth c _ o2 C H locs cells slots LS Qt hL kk
      obtain ⟨hx, hb, -⟩ := C
      have oa := (eOkL_cons.mp o2).1 x rfl
      have e1 : (Int32.ofInt x).toInt = x := w32_of oa.1 oa.2
      exact lv_tableOut hx hb hd (by rw [e1]; exact hc) ht (kk LS hL)
    · next hc =>
      split at hr
      · next off ho =>
        refine sJ hf hr (fun o1 o2 => ⟨o1, (eOkL_cons.mp o2).2⟩) ?_
        intro tgt ht g p l e R s m args below meth c _ o2 C H locs cells slots LS Qt hL kk
        obtain ⟨hx, hb, -⟩ := C
        have oa := (eOkL_cons.mp o2).1 x rfl
        have e1 : (Int32.ofInt x).toInt = x := w32_of oa.1 oa.2
        exact lv_tableIn hx hb hd (by rw [e1]; exact fun z => hc (Or.inl z)) (by rw [e1]; exact fun z => hc (Or.inr z)) (by rw [e1]; exact ho) ht (kk LS hL)
      · cases hr
  · cases hr
theorem sLookup {dflt : Int} {ps : Array (Int × Int)} {len : Nat} (hf : eSnd f) (hd : decode (eB y) pc = .ok (.lookupswitch dflt ps, len))
    (hp : (ps.toList.zip (ps.toList.drop 1)).all (fun (a, next) => a.1 < next.1) = true)
    (hr : (match st with
    | .inl x :: st => eJ f y pc (Op.lookupswitch.offset ps.toList dflt x) ls st h
    | _ => none) = some (r, h')) : eConc y pc ls st h r h' := by
  split at hr
  · next x st =>
    refine sJ hf hr (fun o1 o2 => ⟨o1, (eOkL_cons.mp o2).2⟩) ?_
    intro tgt ht g p l e R s m args below meth c _ o2 C H locs cells slots LS Qt hL kk
    obtain ⟨hx, hb, -⟩ := C
    have oa := (eOkL_cons.mp o2).1 x rfl
    have e1 : (Int32.ofInt x).toInt = x := w32_of oa.1 oa.2
    exact lv_lookup hx hb hd hp (by rw [e1]) ht (kk LS hL)
  · cases hr
theorem sIinc {n : Int} (hf : eSnd f) (hd : decode (eB y) pc = .ok (.iinc k n, 3)) (hk : k < ls.length ∧ eLgO y k = true)
    (hr : (match ls[k]? with
    | some (.inl x) => f y (pc + 3) (ls.set k (.inl (w32 (x + n)))) st h
    | _ => none) = some (r, h')) : eConc y pc ls st h r h' := by
  split at hr
  · next x hx0 =>
    refine eStep (eStp0 (fun o1 o2 _ => ⟨eOkL_set o1 (eOkV_l (w32_ok _)), o2⟩) ?_) (hf _ _ _ _ _ _ _ hr)
    intro g p l e R s m args below meth c _ o2 _ C H locs cells slots LS Qt _ _ hL kk
    obtain ⟨hx, hb, -⟩ := C
    obtain ⟨j, hj⟩ := List.getElem?_of_mem (eLp_mem (g := g) (y := y) (ls := ls) (q := (k, eTr g (.inl x))) |>.mpr ⟨.inl x, hx0, (fun z => by cases z), Or.inl rfl, rfl⟩)
    refine lv_iinc (k := j) (x := Int32.ofInt x) (v := Int32.ofInt (w32 (x + n))) hx hb hd hL.2 hj ?_ (by rw [← hL.1]; exact hk.1) rfl fun LS2 h2 => kk LS2 (eLr_set hL hk.1 hk.2 h2)
    rw [w32_i, Int32.ofInt_add]
  · cases hr
theorem sDup (hf : eSnd f) (hd : decode (eB y) pc = .ok (.dup, 1)) (hr : (match st with
    | a :: st => if eC1 a = true then f y (pc + 1) ls (a :: a :: st) h else none
    | _ => none) = some (r, h')) : eConc y pc ls st h r h' := by
  split at hr
  · next a st =>
    split at hr
    · next hv =>
      refine eStep (eStp0 (fun o1 o2 _ => ⟨o1, eOkL_cons.mpr ⟨(eOkL_cons.mp o2).1, o2⟩⟩) ?_) (hf _ _ _ _ _ _ _ hr)
      intro g p l e R s m args below meth c _ o2 _ C H locs cells slots LS Qt _ _ hL kk
      obtain ⟨hx, hb, -⟩ := C
      exact lv_dup hx hb hd (eTr_cat g hv) (kk LS hL)
    · cases hr
  · cases hr
theorem sPop (hf : eSnd f) (hd : decode (eB y) pc = .ok (.pop, 1)) (hr : (match st with
    | a :: st => if eC1 a = true then f y (pc + 1) ls st h else none
    | _ => none) = some (r, h')) : eConc y pc ls st h r h' := by
  split at hr
  · next a st =>
    split at hr
    · next hv =>
      refine eStep (eStp0 (fun o1 o2 _ => ⟨o1, (eOkL_cons.mp o2).2⟩) ?_) (hf _ _ _ _ _ _ _ hr)
      intro g p l e R s m args below meth c _ o2 _ C H locs cells slots LS Qt _ _ hL kk
      obtain ⟨hx, hb, -⟩ := C
      exact lv_pop hx hb hd (eTr_cat g hv) (kk LS hL)
    · cases hr
  · cases hr
theorem sDup2 (hf : eSnd f) (hd : decode (eB y) pc = .ok (.dup2, 1)) (hr : (match st with
    | a :: b :: st => if eC1 a = true ∧ eC1 b = true then f y (pc + 1) ls (a :: b :: a :: b :: st) h else none
    | _ => none) = some (r, h')) : eConc y pc ls st h r h' := by
  split at hr
  · next a b st =>
    split at hr
    · next hv =>
      refine eStep (eStp0 (fun o1 o2 _ => ⟨o1, eOkL_cons.mpr ⟨(eOkL_cons.mp o2).1, eOkL_cons.mpr ⟨(eOkL_cons.mp (eOkL_cons.mp o2).2).1, o2⟩⟩⟩) ?_) (hf _ _ _ _ _ _ _ hr)
      intro g p l e R s m args below meth c _ o2 _ C H locs cells slots LS Qt _ _ hL kk
      obtain ⟨hx, hb, -⟩ := C
      exact lv_dup2_11 hx hb hd (eTr_cat g hv.1) (eTr_cat g hv.2) (kk LS hL)
    · cases hr
  · cases hr
theorem sI2c (hf : eSnd f) (hd : decode (eB y) pc = .ok (.i2c, 1)) (hr : (match st with
    | .inl a :: st => f y (pc + 1) ls (.inl ((Int32.ofInt a).toUInt32 % 65536).toInt32.toInt :: st) h
    | _ => none) = some (r, h')) : eConc y pc ls st h r h' := by
  split at hr
  · next a st =>
    refine eStep (eStp0 (fun o1 o2 _ => ⟨o1, eOkL_cons.mpr ⟨eOkV_l (i32_ok _), (eOkL_cons.mp o2).2⟩⟩) ?_) (hf _ _ _ _ _ _ _ hr)
    intro g p l e R s m args below meth c _ o2 _ C H locs cells slots LS Qt _ _ hL kk
    obtain ⟨hx, hb, -⟩ := C
    refine lv_i2c hx hb hd (v := Int32.ofInt ((Int32.ofInt a).toUInt32 % 65536).toInt32.toInt) ?_ (kk LS hL)
    rw [Int32.ofInt_toInt]
  · cases hr
theorem sLld (hf : eSnd f) (hr : xLld f y pc2 k ls st h = some (r, h')) (hd : (decode (eB y) pc = .ok (.lload k, 2) ∧ pc2 = pc + 2) ∨ ∃ q : Fin 4, (q : Nat) = k ∧ decode (eB y) pc = .ok (.lload_n q, 1) ∧ pc2 = pc + 1) : eConc y pc ls st h r h' := by
  unfold xLld at hr
  split at hr
  · next x ha =>
    split at hr
    · next hk =>
      refine eStep (eStp0 (fun o1 o2 _ => ⟨o1, eOkL_cons.mpr ⟨eOkV_g x, o2⟩⟩) ?_) (hf _ _ _ _ _ _ _ hr)
      intro g p l e R s m args below meth c _ _ _ C H locs cells slots LS Qt hW hS hL kk
      obtain ⟨hx, hb, -⟩ := C
      have hat := eLr_at hL ha (fun z => by cases z) (Or.inr hk)
      have k2 := kk LS hL
      rcases hd with ⟨hd, rfl⟩ | ⟨q, hq, hd, rfl⟩
      · exact lv_lload hx hb hd hat k2
      · exact lv_lload_n hx hb hd hq hat k2
    · cases hr
  · cases hr
theorem sLst (hf : eSnd f) (hr : xLst f y pc2 k ls st h = some (r, h')) (hd : (decode (eB y) pc = .ok (.lstore k, 2) ∧ pc2 = pc + 2) ∨ ∃ q : Fin 4, (q : Nat) = k ∧ decode (eB y) pc = .ok (.lstore_n q, 1) ∧ pc2 = pc + 1) : eConc y pc ls st h r h' := by
  unfold xLst at hr
  split at hr
  · next x st =>
    split at hr
    · next hk =>
      refine eStep (eStp0 (fun o1 o2 _ => ⟨eOkL_set (eOkL_set o1 (eOkV_g x)) (eOkV_r 0), (eOkL_cons.mp o2).2⟩) ?_) (hf _ _ _ _ _ _ _ hr)
      intro g p l e R s m args below meth c _ _ _ C H locs cells slots LS Qt hW hS hL kk
      obtain ⟨hx, hb, -⟩ := C
      rcases hd with ⟨hd, rfl⟩ | ⟨q, hq, hd, rfl⟩
      · exact lv_lstore hx hb hd hL.2 (by rw [← hL.1]; exact hk.1) rfl fun LS2 h2 => kk LS2 (eLr_setL hL hk.1 hk.2 h2)
      · exact lv_lstore_n hx hb hd hq hL.2 (by rw [← hL.1]; exact hk.1) rfl fun LS2 h2 => kk LS2 (eLr_setL hL hk.1 hk.2 h2)
    · cases hr
  · cases hr
theorem sLpush {w : Int64} {len : Nat} (hf : eSnd f) (hr : xPush f y (pc + len) (.inr (.inr w)) ls st h = some (r, h'))
    (hW : ∀ (g : eGt) (p : Program) (l : Launch) (e : Env) (R : Room) (s : State) (m : MethodId) (args : Array Value) (below : List Frame) (meth : Method) (c : Code) (H : Heap) (locs : List Loc) (cells slots : Nat) (LS : Array Slot) (Qt : State → Prop) (rest : List Value),
      eCx g y h p R s m args meth c → W p l e R s m args below meth c H locs cells slots Qt (F0 m (pc + len) LS (.long w :: rest)) → W p l e R s m args below meth c H locs cells slots Qt (F0 m pc LS rest)) : eConc y pc ls st h r h' := by
  unfold xPush at hr
  refine eStep (eStp0 (fun o1 o2 _ => ⟨o1, eOkL_cons.mpr ⟨eOkV_g w, o2⟩⟩) ?_) (hf _ _ _ _ _ _ _ hr)
  intro g p l e R s m args below meth c _ _ _ C H locs cells slots LS Qt hW' hS hL kk
  exact hW g p l e R s m args below meth c H locs cells slots LS Qt _ C (kk LS hL)
theorem sLbin {op : Int64 → Int64 → Int64} (hf : eSnd f) (hr : xLbin f y (pc + 1) op ls st h = some (r, h'))
    (hW : ∀ (g : eGt) (p : Program) (l : Launch) (e : Env) (R : Room) (s : State) (m : MethodId) (args : Array Value) (below : List Frame) (meth : Method) (c : Code) (H : Heap) (locs : List Loc) (cells slots : Nat) (LS : Array Slot) (Qt : State → Prop) (rest : List Value) (a b : Int64),
      eCx g y h p R s m args meth c → W p l e R s m args below meth c H locs cells slots Qt (F0 m (pc + 1) LS (.long (op a b) :: rest)) → W p l e R s m args below meth c H locs cells slots Qt (F0 m pc LS (.long b :: .long a :: rest))) : eConc y pc ls st h r h' := by
  unfold xLbin at hr
  split at hr
  · next b a st =>
    refine eStep (eStp0 (fun o1 o2 _ => ⟨o1, eOkL_cons.mpr ⟨eOkV_g _, (eOkL_cons.mp (eOkL_cons.mp o2).2).2⟩⟩) ?_) (hf _ _ _ _ _ _ _ hr)
    intro g p l e R s m args below meth c _ o2 _ C H locs cells slots LS Qt hW' hS hL kk
    exact hW g p l e R s m args below meth c H locs cells slots LS Qt _ a b C (kk LS hL)
  · cases hr
theorem sLshr (hf : eSnd f) (hr : xLshr f y (pc + 1) ls st h = some (r, h')) (hd : decode (eB y) pc = .ok (.lshr, 1)) : eConc y pc ls st h r h' := by
  unfold xLshr at hr
  split at hr
  · next b a st =>
    refine eStep (eStp0 (fun o1 o2 _ => ⟨o1, eOkL_cons.mpr ⟨eOkV_g _, (eOkL_cons.mp (eOkL_cons.mp o2).2).2⟩⟩) ?_) (hf _ _ _ _ _ _ _ hr)
    intro g p l e R s m args below meth c _ o2 _ C H locs cells slots LS Qt _ _ hL kk
    obtain ⟨hx, hb, -⟩ := C
    exact lv_lshr hx hb hd rfl (kk LS hL)
  · cases hr
theorem sLcmp (hf : eSnd f) (hr : xLcmp f y (pc + 1) ls st h = some (r, h')) (hd : decode (eB y) pc = .ok (.lcmp, 1)) : eConc y pc ls st h r h' := by
  unfold xLcmp at hr
  split at hr
  · next b a st =>
    refine eStep (eStp0 (fun o1 o2 _ => ⟨o1, eOkL_cons.mpr ⟨eOkV_l (i32_ok _), (eOkL_cons.mp (eOkL_cons.mp o2).2).2⟩⟩) ?_) (hf _ _ _ _ _ _ _ hr)
    intro g p l e R s m args below meth c _ o2 _ C H locs cells slots LS Qt _ _ hL kk
    obtain ⟨hx, hb, -⟩ := C
    have k2 := kk LS hL
    rw [List.map_cons, show eTr g (.inl (lg_cmp a b).toInt) = .int (lg_cmp a b) from congrArg Value.int (Int32.ofInt_toInt _)] at k2
    exact W.lcmp hx hb hd k2
  · cases hr
theorem sI2l (hf : eSnd f) (hr : xI2l f y (pc + 1) ls st h = some (r, h')) (hd : decode (eB y) pc = .ok (.i2l, 1)) : eConc y pc ls st h r h' := by
  unfold xI2l at hr
  split at hr
  · next a st =>
    refine eStep (eStp0 (fun o1 o2 _ => ⟨o1, eOkL_cons.mpr ⟨eOkV_g _, (eOkL_cons.mp o2).2⟩⟩) ?_) (hf _ _ _ _ _ _ _ hr)
    intro g p l e R s m args below meth c _ o2 _ C H locs cells slots LS Qt _ _ hL kk
    obtain ⟨hx, hb, -⟩ := C
    exact lv_i2l hx hb hd rfl (kk LS hL)
  · cases hr
theorem sL2i (hf : eSnd f) (hr : xL2i f y (pc + 1) ls st h = some (r, h')) (hd : decode (eB y) pc = .ok (.l2i, 1)) : eConc y pc ls st h r h' := by
  unfold xL2i at hr
  split at hr
  · next a st =>
    refine eStep (eStp0 (fun o1 o2 _ => ⟨o1, eOkL_cons.mpr ⟨eOkV_l (i32_ok _), (eOkL_cons.mp o2).2⟩⟩) ?_) (hf _ _ _ _ _ _ _ hr)
    intro g p l e R s m args below meth c _ o2 _ C H locs cells slots LS Qt _ _ hL kk
    obtain ⟨hx, hb, -⟩ := C
    refine lv_l2i hx hb hd (v := Int32.ofInt a.toInt32.toInt) ?_ (kk LS hL)
    rw [Int32.ofInt_toInt]
  · cases hr
end ESTEPS
