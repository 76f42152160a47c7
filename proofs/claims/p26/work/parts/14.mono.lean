/-! more fuel, the same answer -/
def eLe (f g : eK) : Prop := ∀ (y pc : Nat) (ls st : List eV) (h : eH) (r : Option eV × eH), f y pc ls st h = some r → g y pc ls st h = some r
section EMONO
variable {f g : eK} {y pc k : Nat} {ls st : List eV} {h : eH} {r : Option eV × eH}
theorem mJ {off : Int} (H : eLe f g) : eJ f y pc off ls st h = some r → eJ g y pc off ls st h = some r := by
  unfold eJ
  split
  · exact H _ _ _ _ _ _
  · exact id
theorem mRun {y2 : Nat} {vs : List eV} (H : eLe f g) : xRun f y pc y2 vs ls st h = some r → xRun g y pc y2 vs ls st h = some r := by
  unfold xRun
  split
  · intro hr
    split at hr
    · next q hq =>
      rw [H _ _ _ _ _ _ hq]
      exact H _ _ _ _ _ _ hr
    · cases hr
  · exact id
theorem mCopy (H : eLe f g) : xCopy f y pc ls st h = some r → xCopy g y pc ls st h = some r := by
  unfold xCopy
  repeat' split
  all_goals first | exact H _ _ _ _ _ _ | (intro z; cases z; done)
theorem mCall {k0 idx : Nat} (H : eLe f g) : xCall f k0 y pc idx ls st h = some r → xCall g k0 y pc idx ls st h = some r := by
  unfold xCall
  repeat' split
  all_goals first | exact H _ _ _ _ _ _ | exact mRun H | exact mCopy H | (intro z; cases z; done)
theorem mAld (H : eLe f g) : xAld f y pc k ls st h = some r → xAld g y pc k ls st h = some r := by
  unfold xAld
  repeat' split
  all_goals first | exact H _ _ _ _ _ _ | (intro z; cases z; done)
theorem mIld (H : eLe f g) : xIld f y pc k ls st h = some r → xIld g y pc k ls st h = some r := by
  unfold xIld
  repeat' split
  all_goals first | exact H _ _ _ _ _ _ | (intro z; cases z; done)
theorem mAst (H : eLe f g) : xAst f y pc k ls st h = some r → xAst g y pc k ls st h = some r := by
  unfold xAst
  repeat' split
  all_goals first | exact H _ _ _ _ _ _ | (intro z; cases z; done)
theorem mIst (H : eLe f g) : xIst f y pc k ls st h = some r → xIst g y pc k ls st h = some r := by
  unfold xIst
  repeat' split
  all_goals first | exact H _ _ _ _ _ _ | (intro z; cases z; done)
theorem mBin {op : Int → Int → Int} (H : eLe f g) : xBin f y pc op ls st h = some r → xBin g y pc op ls st h = some r := by
  unfold xBin
  repeat' split
  all_goals first | exact H _ _ _ _ _ _ | (intro z; cases z; done)
theorem mBin0 {op : Int → Int → Int} (H : eLe f g) : xBin0 f y pc op ls st h = some r → xBin0 g y pc op ls st h = some r := by
  unfold xBin0
  repeat' split
  all_goals first | exact H _ _ _ _ _ _ | (intro z; cases z; done)
theorem mIf {c : Jvm.ClassFile.Cond} {off : Int} (H : eLe f g) : xIf f y pc c off ls st h = some r → xIf g y pc c off ls st h = some r := by
  unfold xIf
  repeat' split
  all_goals first | exact H _ _ _ _ _ _ | (intro z; cases z; done)
theorem mIcmp {c : Jvm.ClassFile.Cond} {off : Int} (H : eLe f g) : xIcmp f y pc c off ls st h = some r → xIcmp g y pc c off ls st h = some r := by
  unfold xIcmp
  repeat' split
  all_goals first | exact H _ _ _ _ _ _ | (intro z; cases z; done)
theorem mNul {j : Bool} {off : Int} (H : eLe f g) : xNul f y pc j off ls st h = some r → xNul g y pc j off ls st h = some r := by
  unfold xNul
  repeat' split
  all_goals first | exact H _ _ _ _ _ _ | exact mJ H | (intro z; cases z; done)
theorem mAlen (H : eLe f g) : xAlen f y pc ls st h = some r → xAlen g y pc ls st h = some r := by
  unfold xAlen
  repeat' split
  all_goals first | exact H _ _ _ _ _ _ | (intro z; cases z; done)
theorem mIald {t : Nat} (H : eLe f g) : xIald f y pc t ls st h = some r → xIald g y pc t ls st h = some r := by
  unfold xIald
  repeat' split
  all_goals first | exact H _ _ _ _ _ _ | (intro z; cases z; done)
theorem mAald (H : eLe f g) : xAald f y pc ls st h = some r → xAald g y pc ls st h = some r := by
  unfold xAald
  repeat' split
  all_goals first | exact H _ _ _ _ _ _ | (intro z; cases z; done)
theorem mIastore {t : Nat} (H : eLe f g) : xIastore f y pc t ls st h = some r → xIastore g y pc t ls st h = some r := by
  unfold xIastore
  repeat' split
  all_goals first | exact H _ _ _ _ _ _ | (intro z; cases z; done)
theorem mAastore (H : eLe f g) : xAastore f y pc ls st h = some r → xAastore g y pc ls st h = some r := by
  unfold xAastore
  repeat' split
  all_goals first | exact H _ _ _ _ _ _ | (intro z; cases z; done)
theorem mGet {idx : Nat} (H : eLe f g) : xGet f y pc idx ls st h = some r → xGet g y pc idx ls st h = some r := by
  unfold xGet
  repeat' split
  all_goals first | exact H _ _ _ _ _ _ | (intro z; cases z; done)
theorem mPut {idx : Nat} (H : eLe f g) : xPut f y pc idx ls st h = some r → xPut g y pc idx ls st h = some r := by
  unfold xPut
  repeat' split
  all_goals first | exact H _ _ _ _ _ _ | (intro z; cases z; done)
theorem mNew {idx : Nat} (H : eLe f g) : xNew f y pc idx ls st h = some r → xNew g y pc idx ls st h = some r := by
  unfold xNew
  repeat' split
  all_goals first | exact H _ _ _ _ _ _ | (intro z; cases z; done)
theorem mNewa {t : Nat} {v : eV} (H : eLe f g) : xNewa f y pc t v ls st h = some r → xNewa g y pc t v ls st h = some r := by
  unfold xNewa
  repeat' split
  all_goals first | exact H _ _ _ _ _ _ | (intro z; cases z; done)
theorem mLld (H : eLe f g) : xLld f y pc k ls st h = some r → xLld g y pc k ls st h = some r := by
  unfold xLld
  repeat' split
  all_goals first | exact H _ _ _ _ _ _ | (intro z; cases z; done)
theorem mLst (H : eLe f g) : xLst f y pc k ls st h = some r → xLst g y pc k ls st h = some r := by
  unfold xLst
  repeat' split
  all_goals first | exact H _ _ _ _ _ _ | (intro z; cases z; done)
theorem mLbin {op : Int64 → Int64 → Int64} (H : eLe f g) : xLbin f y pc op ls st h = some r → xLbin g y pc op ls st h = some r := by
  unfold xLbin
  repeat' split
  all_goals first | exact H _ _ _ _ _ _ | (intro z; cases z; done)
theorem mLshr (H : eLe f g) : xLshr f y pc ls st h = some r → xLshr g y pc ls st h = some r := by
  unfold xLshr
  repeat' split
  all_goals first | exact H _ _ _ _ _ _ | (intro z; cases z; done)
theorem mLcmp (H : eLe f g) : xLcmp f y pc ls st h = some r → xLcmp g y pc ls st h = some r := by
  unfold xLcmp
  repeat' split
  all_goals first | exact H _ _ _ _ _ _ | (intro z; cases z; done)
theorem mI2l (H : eLe f g) : xI2l f y pc ls st h = some r → xI2l g y pc ls st h = some r := by
  unfold xI2l
  repeat' split
  all_goals first | exact H _ _ _ _ _ _ | (intro z; cases z; done)
theorem mL2i (H : eLe f g) : xL2i f y pc ls st h = some r → xL2i g y pc ls st h = some r := by
  unfold xL2i
  repeat' split
  all_goals first | exact H _ _ _ _ _ _ | (intro z; cases z; done)
theorem mLald (H : eLe f g) : xLald f y pc ls st h = some r → xLald g y pc ls st h = some r := by
  unfold xLald
  repeat' split
  all_goals first | exact H _ _ _ _ _ _ | (intro z; cases z; done)
theorem mLast (H : eLe f g) : xLast f y pc ls st h = some r → xLast g y pc ls st h = some r := by
  unfold xLast
  repeat' split
  all_goals first | exact H _ _ _ _ _ _ | (intro z; cases z; done)
theorem exI_mono {i : Instr} {len : Nat} (H : eLe f g) : exI f y pc i len ls st h = some r → exI g y pc i len ls st h = some r := by
  cases i <;> simp only [exI, xPush] <;> (repeat' split) <;>
    first | exact id | exact H _ _ _ _ _ _ | exact mCall H | exact mJ H | exact mAld H | exact mIld H | exact mAst H | exact mIst H | exact mBin H | exact mBin0 H | exact mIf H | exact mIcmp H | exact mNul H | exact mAlen H | exact mIald H | exact mAald H | exact mIastore H | exact mAastore H | exact mGet H | exact mPut H | exact mNew H | exact mNewa H | exact mLld H | exact mLst H | exact mLbin H | exact mLshr H | exact mLcmp H | exact mI2l H | exact mL2i H | exact mLald H | exact mLast H | (intro z; cases z; done)
end EMONO
theorem ex_mono1 : ∀ n : Nat, eLe (ex n) (ex (n + 1))
  | 0 => fun _ _ _ _ _ _ h => by cases h
  | n + 1 => fun y pc ls st h r hr => by
    unfold ex at hr ⊢
    split at hr
    · next i len hd => exact exI_mono (ex_mono1 n) hr
    · cases hr
theorem ex_mono {n m : Nat} (h : n ≤ m) : eLe (ex n) (ex m) := by
  induction h with
  | refl => exact fun _ _ _ _ _ _ h => h
  | step _ ih => exact fun _ _ _ _ _ _ h => ex_mono1 _ _ _ _ _ _ _ (ih _ _ _ _ _ _ h)
/-! a run ends, and then Q holds -/
def wp (y pc : Nat) (ls st : List eV) (h : eH) (Q : Option eV → eH → Prop) : Prop := ∃ (n : Nat) (r : Option eV) (h' : eH), ex n y pc ls st h = some (r, h') ∧ Q r h'
/-- what follows a call -/
def kont (y pc : Nat) (ls st : List eV) (Q : Option eV → eH → Prop) : Option eV → eH → Prop := fun r h => wp y pc ls (r.toList ++ st) h Q
theorem kont_some {y pc : Nat} {ls st : List eV} {Q : Option eV → eH → Prop} {v : eV} {h : eH} : kont y pc ls st Q (some v) h ↔ wp y pc ls (v :: st) h Q := Iff.rfl
theorem kont_none {y pc : Nat} {ls st : List eV} {Q : Option eV → eH → Prop} {h : eH} : kont y pc ls st Q none h ↔ wp y pc ls st h Q := Iff.rfl
theorem ex_det {n m y pc : Nat} {ls st : List eV} {h : eH} {a b : Option eV × eH} (h1 : ex n y pc ls st h = some a) (h2 : ex m y pc ls st h = some b) : a = b := by
  rcases Nat.le_total n m with q | q
  · have := ex_mono q _ _ _ _ _ _ h1
    exact Option.some.inj (this.symm.trans h2)
  · have := ex_mono q _ _ _ _ _ _ h2
    exact Option.some.inj (h1.symm.trans this)
theorem wp_mono {y pc : Nat} {ls st : List eV} {h : eH} {Q Q2 : Option eV → eH → Prop} (H : ∀ r h', Q r h' → Q2 r h') : wp y pc ls st h Q → wp y pc ls st h Q2 := fun ⟨n, r, h', a, b⟩ => ⟨n, r, h', a, H r h' b⟩
/-- a run whose end is known is a rewriting rule -/
theorem wp_iff {y pc : Nat} {ls st : List eV} {h h0 : eH} {r0 : Option eV} (H : wp y pc ls st h (fun r h' => r = r0 ∧ h' = h0)) (Q : Option eV → eH → Prop) : wp y pc ls st h Q ↔ Q r0 h0 := by
  obtain ⟨n, r, h', a, rfl, rfl⟩ := H
  constructor
  · rintro ⟨m, r2, h2, b, c⟩
    have := ex_det a b
    cases this
    exact c
  · exact fun c => ⟨n, _, _, a, c⟩
/-- one step that doesn't call -/
theorem wp_step {y pc pc2 : Nat} {ls st ls2 st2 : List eV} {h h2 : eH} {Q : Option eV → eH → Prop} {i : Instr} {len : Nat} (hd : decode (eB y) pc = .ok (i, len)) (hs : ∀ f : eK, exI f y pc i len ls st h = f y pc2 ls2 st2 h2) : wp y pc ls st h Q ↔ wp y pc2 ls2 st2 h2 Q := by
  have e : ∀ n, ex (n + 1) y pc ls st h = ex n y pc2 ls2 st2 h2 := fun n => by
    show (match decode (eB y) pc with
      | .ok (i, len) => exI (ex n) y pc i len ls st h
      | _ => none) = _
    rw [hd]
    exact hs _
  constructor
  · rintro ⟨n, r, h', a, b⟩
    cases n with
    | zero => cases a
    | succ n => rw [e] at a; exact ⟨n, r, h', a, b⟩
  · rintro ⟨n, r, h', a, b⟩
    exact ⟨n + 1, r, h', by rw [e]; exact a, b⟩
theorem wp_end {y pc : Nat} {ls st : List eV} {h : eH} {Q : Option eV → eH → Prop} {r : Option eV} {i : Instr} {len : Nat} (hd : decode (eB y) pc = .ok (i, len)) (hs : ∀ f : eK, exI f y pc i len ls st h = some (r, h)) : wp y pc ls st h Q ↔ Q r h := by
  refine wp_iff ⟨1, r, h, ?_, rfl, rfl⟩ Q
  show (match decode (eB y) pc with
      | .ok (i, len) => exI (ex 0) y pc i len ls st h
      | _ => none) = _
  rw [hd]
  exact hs _
theorem wp_call {y pc y2 : Nat} {ls st vs st2 : List eV} {h : eH} {Q : Option eV → eH → Prop} {i : Instr} {len : Nat} (hd : decode (eB y) pc = .ok (i, len)) (hs : ∀ f : eK, exI f y pc i len ls st h = xRun f y pc y2 vs ls st2 h) (hc : eRoom y y2 = true ∧ (eXp vs).length ≤ eN y2 ∧ eSm st2 ≤ 8) :
    wp y pc ls st h Q ↔ wp y2 0 (eLoc y2 vs) [] h (kont y (pc + 3) ls st2 Q) := by
  have e : ∀ n, ex (n + 1) y pc ls st h = (match ex n y2 0 (eLoc y2 vs) [] h with
      | some r => ex n y (pc + 3) ls (r.1.toList ++ st2) r.2
      | none => none) := fun n => by
    show (match decode (eB y) pc with
      | .ok (i, len) => exI (ex n) y pc i len ls st h
      | _ => none) = _
    rw [hd]
    show exI (ex n) y pc i len ls st h = _
    rw [hs, xRun, if_pos hc]
    cases ex n y2 0 (eLoc y2 vs) [] h <;> rfl
  constructor
  · rintro ⟨n, r, h', a, b⟩
    cases n with
    | zero => cases a
    | succ n =>
      rw [e] at a
      cases hq : ex n y2 0 (eLoc y2 vs) [] h with
      | none => rw [hq] at a; cases a
      | some q =>
        rw [hq] at a
        exact ⟨n, q.1, q.2, hq, n, r, h', a, b⟩
  · rintro ⟨n, r1, h1, a1, m, r, h', a, b⟩
    refine ⟨max n m + 1, r, h', ?_, b⟩
    rw [e, ex_mono (Nat.le_max_left n m) _ _ _ _ _ _ a1]
    exact ex_mono (Nat.le_max_right n m) _ _ _ _ _ _ a
