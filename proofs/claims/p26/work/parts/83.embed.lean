/-! a run over the cells of one object, carried into a heap with other cells before (G) and behind (W) -/
def sh (k : Nat) (v : eV) : eV := match v with
  | .inr (.inl a) => if a < 8 then .inr (.inl a) else .inr (.inl (a + k))
  | _ => v
def sc (k : Nat) (c : eC) : eC := (c.1, c.2.map (sh k))
def em (G W h : eH) : eH := (h.take 8).map (sc G.length) ++ G ++ (h.drop 8).map (sc G.length) ++ W
def ad (k a : Nat) : Nat := if a < 8 then a else a + k
theorem sh_l {k : Nat} {x : Int} : sh k (.inl x) = .inl x := rfl
theorem sh_g {k : Nat} {x : Int64} : sh k (.inr (.inr x)) = .inr (.inr x) := rfl
theorem sh_r {k a : Nat} : sh k (.inr (.inl a)) = .inr (.inl (ad k a)) := by
  unfold sh ad
  dsimp only
  split <;> rfl
theorem ad_0 {k : Nat} : ad k 0 = 0 := rfl
theorem ad_n0 {k a : Nat} : ad k a = 0 ↔ a = 0 := by unfold ad; split <;> omega
theorem ad_8 {k a : Nat} : 8 ≤ ad k a ↔ 8 ≤ a := by unfold ad; split <;> omega
theorem ad_hi {k a : Nat} (h : 8 ≤ a) : ad k a = a + k := by unfold ad; rw [if_neg (by omega)]
theorem sh_c1 {k : Nat} {v : eV} : eC1 (sh k v) = eC1 v := by
  rcases v with x | a | w
  · rfl
  · rw [sh_r]; rfl
  · rfl
theorem sh_sm {k : Nat} {st : List eV} : eSm (st.map (sh k)) = eSm st := by
  induction st with
  | nil => rfl
  | cons v t ih => rw [List.map_cons, eSm, eSm, ih, sh_c1]
theorem sh_xp {k : Nat} {vs : List eV} : eXp (vs.map (sh k)) = (eXp vs).map (sh k) := by
  induction vs with
  | nil => rfl
  | cons v t ih =>
    rw [List.map_cons, eXp, eXp, ih, sh_c1]
    split
    · rfl
    · rfl
theorem sh_loc {k y : Nat} {vs : List eV} : eLoc y (vs.map (sh k)) = (eLoc y vs).map (sh k) := by
  unfold eLoc
  rw [sh_xp, List.length_map, List.map_append, List.map_replicate]
  rfl
section EEM
variable {G W h : eH} {a : Nat} {c : eC}
theorem em_get (h8 : 8 ≤ h.length) (hc : h[a]? = some c) : (em G W h)[ad G.length a]? = some (sc G.length c) := by
  have hl := (List.getElem?_eq_some_iff.mp hc).1
  unfold em ad
  by_cases ha : a < 8
  · rw [if_pos ha, List.append_assoc, List.append_assoc, List.getElem?_append_left (by simp; omega), List.getElem?_map, List.getElem?_take, if_pos ha, hc]
    rfl
  · rw [if_neg ha, List.getElem?_append_left (by simp; omega), List.getElem?_append_right (by simp; omega), List.getElem?_map, List.getElem?_drop]
    have e : 8 + (a + G.length - ((h.take 8).map (sc G.length) ++ G).length) = a := by
      simp only [List.length_append, List.length_map, List.length_take]
      omega
    rw [e, hc]
    rfl
theorem em_len (h8 : 8 ≤ h.length) : (em G W h).length = h.length + G.length + W.length := by
  unfold em
  simp only [List.length_append, List.length_take, List.length_map, List.length_drop]
  omega
theorem em_set (ha : 8 ≤ a) (hl : a < h.length) : em G W (h.set a c) = (em G W h).set (a + G.length) (sc G.length c) := by
  have e1 : (h.set a c).take 8 = h.take 8 := List.take_set_of_le ha
  have e2 : (h.set a c).drop 8 = (h.drop 8).set (a - 8) c := by rw [List.drop_set, if_neg (by omega)]
  unfold em
  rw [e1, e2, List.map_set, List.set_append_left _ _ (by simp; omega), List.set_append_right _ _ (by simp; omega)]
  congr 3
  simp only [List.length_append, List.length_map, List.length_take]
  omega
theorem em_push (h8 : 8 ≤ h.length) : em G [] (h ++ [c]) = em G [] h ++ [sc G.length c] := by
  unfold em
  rw [List.take_append_of_le_length h8, List.drop_append_of_le_length h8]
  simp
/-- the form: what f answers over h, it answers over the larger heap; h doesn't shrink -/
def eEm (G W : eH) (f : eK) : Prop := ∀ (y pc : Nat) (ls st : List eV) (h : eH) (r : Option eV) (h2 : eH), 8 ≤ h.length → f y pc ls st h = some (r, h2) →
  h.length ≤ h2.length ∧ (W = [] ∨ h2.length = h.length → f y pc (ls.map (sh G.length)) (st.map (sh G.length)) (em G W h) = some (r.map (sh G.length), em G W h2))
def eEc (G W : eH) (h : eH) (h2 : eH) (x : eRes) (r : Option eV) : Prop := h.length ≤ h2.length ∧ (W = [] ∨ h2.length = h.length → x = some (r.map (sh G.length), em G W h2))
end EEM
section EEMI
variable {G W : eH} {f : eK} {y pc k : Nat} {ls st : List eV} {h h2 : eH} {r : Option eV}
theorem qJ {off : Int} (H : eEm G W f) (h8 : 8 ≤ h.length) (hr : eJ f y pc off ls st h = some (r, h2)) : eEc G W h h2 (eJ f y pc off (ls.map (sh G.length)) (st.map (sh G.length)) (em G W h)) r := by
  unfold eJ at hr ⊢
  split at hr
  · next q =>
    simp only [if_pos q]
    exact H _ _ _ _ _ _ _ h8 hr
  · cases hr
theorem qAld (H : eEm G W f) (h8 : 8 ≤ h.length) (hr : xAld f y pc k ls st h = some (r, h2)) : eEc G W h h2 (xAld f y pc k (ls.map (sh G.length)) (st.map (sh G.length)) (em G W h)) r := by
  unfold xAld at hr ⊢
  rw [List.getElem?_map]
  split at hr
  · next a ha =>
    rw [ha, Option.map_some, sh_r]
    dsimp only
    split at hr
    · cases hr
    · next q =>
      rw [if_neg (fun z => q (ad_n0.mp z))]
      have := H _ _ _ _ _ _ _ h8 hr
      rw [List.map_cons, sh_r] at this
      exact this
  · cases hr
theorem qIld (H : eEm G W f) (h8 : 8 ≤ h.length) (hr : xIld f y pc k ls st h = some (r, h2)) : eEc G W h h2 (xIld f y pc k (ls.map (sh G.length)) (st.map (sh G.length)) (em G W h)) r := by
  unfold xIld at hr ⊢
  rw [List.getElem?_map]
  split at hr
  · next x ha =>
    rw [ha]
    exact H _ _ _ _ _ _ _ h8 hr
  · cases hr
theorem qLld (H : eEm G W f) (h8 : 8 ≤ h.length) (hr : xLld f y pc k ls st h = some (r, h2)) : eEc G W h h2 (xLld f y pc k (ls.map (sh G.length)) (st.map (sh G.length)) (em G W h)) r := by
  unfold xLld at hr ⊢
  rw [List.getElem?_map]
  split at hr
  · next x ha =>
    rw [ha]
    split at hr
    · next q =>
      rw [Option.map_some, sh_g]
      dsimp only
      rw [if_pos q]
      exact H _ _ _ _ _ _ _ h8 hr
    · cases hr
  · cases hr
theorem qAst (H : eEm G W f) (h8 : 8 ≤ h.length) (hr : xAst f y pc k ls st h = some (r, h2)) : eEc G W h h2 (xAst f y pc k (ls.map (sh G.length)) (st.map (sh G.length)) (em G W h)) r := by
  unfold xAst at hr ⊢
  split at hr
  · next a st =>
    rw [List.map_cons, sh_r]
    dsimp only
    split at hr
    · cases hr
    · next q =>
      rw [if_neg (fun z => q (ad_n0.mp z)), List.length_map]
      split at hr
      · next q2 =>
        rw [if_pos q2]
        have := H _ _ _ _ _ _ _ h8 hr
        rw [List.map_set, sh_r] at this
        exact this
      · cases hr
  · cases hr
theorem qIst (H : eEm G W f) (h8 : 8 ≤ h.length) (hr : xIst f y pc k ls st h = some (r, h2)) : eEc G W h h2 (xIst f y pc k (ls.map (sh G.length)) (st.map (sh G.length)) (em G W h)) r := by
  unfold xIst at hr ⊢
  split at hr
  · next x st =>
    rw [List.map_cons, sh_l]
    dsimp only
    rw [List.length_map]
    split at hr
    · next q2 =>
      rw [if_pos q2]
      have := H _ _ _ _ _ _ _ h8 hr
      rw [List.map_set, sh_l] at this
      exact this
    · cases hr
  · cases hr
theorem qLst (H : eEm G W f) (h8 : 8 ≤ h.length) (hr : xLst f y pc k ls st h = some (r, h2)) : eEc G W h h2 (xLst f y pc k (ls.map (sh G.length)) (st.map (sh G.length)) (em G W h)) r := by
  unfold xLst at hr ⊢
  split at hr
  · next x st =>
    rw [List.map_cons, sh_g]
    dsimp only
    rw [List.length_map]
    split at hr
    · next q2 =>
      rw [if_pos q2]
      have := H _ _ _ _ _ _ _ h8 hr
      rw [List.map_set, List.map_set, sh_g, sh_r] at this
      exact this
    · cases hr
  · cases hr
theorem qBin {op : Int → Int → Int} (H : eEm G W f) (h8 : 8 ≤ h.length) (hr : xBin f y pc op ls st h = some (r, h2)) : eEc G W h h2 (xBin f y pc op (ls.map (sh G.length)) (st.map (sh G.length)) (em G W h)) r := by
  unfold xBin at hr ⊢
  split at hr
  · exact H _ _ _ _ _ _ _ h8 hr
  · cases hr
theorem qBin0 {op : Int → Int → Int} (H : eEm G W f) (h8 : 8 ≤ h.length) (hr : xBin0 f y pc op ls st h = some (r, h2)) : eEc G W h h2 (xBin0 f y pc op (ls.map (sh G.length)) (st.map (sh G.length)) (em G W h)) r := by
  unfold xBin0 at hr ⊢
  split at hr
  · split at hr
    · cases hr
    · next q =>
      simp only [List.map_cons, sh_l, if_neg q]
      exact H _ _ _ _ _ _ _ h8 hr
  · cases hr
theorem qLbin {op : Int64 → Int64 → Int64} (H : eEm G W f) (h8 : 8 ≤ h.length) (hr : xLbin f y pc op ls st h = some (r, h2)) : eEc G W h h2 (xLbin f y pc op (ls.map (sh G.length)) (st.map (sh G.length)) (em G W h)) r := by
  unfold xLbin at hr ⊢
  split at hr
  · exact H _ _ _ _ _ _ _ h8 hr
  · cases hr
theorem qLshr (H : eEm G W f) (h8 : 8 ≤ h.length) (hr : xLshr f y pc ls st h = some (r, h2)) : eEc G W h h2 (xLshr f y pc (ls.map (sh G.length)) (st.map (sh G.length)) (em G W h)) r := by
  unfold xLshr at hr ⊢
  split at hr
  · exact H _ _ _ _ _ _ _ h8 hr
  · cases hr
theorem qLcmp (H : eEm G W f) (h8 : 8 ≤ h.length) (hr : xLcmp f y pc ls st h = some (r, h2)) : eEc G W h h2 (xLcmp f y pc (ls.map (sh G.length)) (st.map (sh G.length)) (em G W h)) r := by
  unfold xLcmp at hr ⊢
  split at hr
  · exact H _ _ _ _ _ _ _ h8 hr
  · cases hr
theorem qI2l (H : eEm G W f) (h8 : 8 ≤ h.length) (hr : xI2l f y pc ls st h = some (r, h2)) : eEc G W h h2 (xI2l f y pc (ls.map (sh G.length)) (st.map (sh G.length)) (em G W h)) r := by
  unfold xI2l at hr ⊢
  split at hr
  · exact H _ _ _ _ _ _ _ h8 hr
  · cases hr
theorem qL2i (H : eEm G W f) (h8 : 8 ≤ h.length) (hr : xL2i f y pc ls st h = some (r, h2)) : eEc G W h h2 (xL2i f y pc (ls.map (sh G.length)) (st.map (sh G.length)) (em G W h)) r := by
  unfold xL2i at hr ⊢
  split at hr
  · exact H _ _ _ _ _ _ _ h8 hr
  · cases hr
theorem qIf {d : Jvm.ClassFile.Cond} {off : Int} (H : eEm G W f) (h8 : 8 ≤ h.length) (hr : xIf f y pc d off ls st h = some (r, h2)) : eEc G W h h2 (xIf f y pc d off (ls.map (sh G.length)) (st.map (sh G.length)) (em G W h)) r := by
  unfold xIf at hr ⊢
  split at hr
  · split at hr
    · next q =>
      simp only [List.map_cons, sh_l, if_pos q]
      split at hr
      · next q2 =>
        simp only [if_pos q2]
        exact H _ _ _ _ _ _ _ h8 hr
      · next q2 =>
        simp only [if_neg q2]
        exact H _ _ _ _ _ _ _ h8 hr
    · cases hr
  · cases hr
theorem qIcmp {d : Jvm.ClassFile.Cond} {off : Int} (H : eEm G W f) (h8 : 8 ≤ h.length) (hr : xIcmp f y pc d off ls st h = some (r, h2)) : eEc G W h h2 (xIcmp f y pc d off (ls.map (sh G.length)) (st.map (sh G.length)) (em G W h)) r := by
  unfold xIcmp at hr ⊢
  split at hr
  · split at hr
    · next q =>
      simp only [List.map_cons, sh_l, if_pos q]
      split at hr
      · next q2 =>
        simp only [if_pos q2]
        exact H _ _ _ _ _ _ _ h8 hr
      · next q2 =>
        simp only [if_neg q2]
        exact H _ _ _ _ _ _ _ h8 hr
    · cases hr
  · cases hr
theorem qNul {j : Bool} {off : Int} (H : eEm G W f) (h8 : 8 ≤ h.length) (hr : xNul f y pc j off ls st h = some (r, h2)) : eEc G W h h2 (xNul f y pc j off (ls.map (sh G.length)) (st.map (sh G.length)) (em G W h)) r := by
  unfold xNul at hr ⊢
  split at hr
  · next a st =>
    split at hr
    · cases hr
    · next q =>
      rw [List.map_cons, sh_r]
      dsimp only
      rw [if_neg (fun z => q (ad_n0.mp z))]
      split at hr
      · next q2 =>
        simp only [if_pos q2]
        exact qJ H h8 hr
      · next q2 =>
        simp only [if_neg q2]
        exact H _ _ _ _ _ _ _ h8 hr
  · cases hr
theorem sc_get {k i : Nat} {c : eC} {v : eV} (h : c.2[i]? = some v) (hv : sh k v = v) : (sc k c).2[i]? = some v := by
  show (c.2.map (sh k))[i]? = _
  rw [List.getElem?_map, h, Option.map_some, hv]
theorem sc_len {k : Nat} {c : eC} : (sc k c).2.length = c.2.length := List.length_map ..
theorem arr_ad {k a t : Nat} (h : eArr a t = true) : eArr (ad k a) t = true := by
  unfold eArr at h ⊢
  simp only [Bool.or_eq_true, Bool.and_eq_true, beq_iff_eq, decide_eq_true_eq] at h ⊢
  rw [ad_8]
  exact h
theorem qAlen (H : eEm G W f) (h8 : 8 ≤ h.length) (hr : xAlen f y pc ls st h = some (r, h2)) : eEc G W h h2 (xAlen f y pc (ls.map (sh G.length)) (st.map (sh G.length)) (em G W h)) r := by
  unfold xAlen at hr ⊢
  split at hr
  · next a st =>
    split at hr
    · next c hc =>
      split at hr
      · next q =>
        rw [List.map_cons, sh_r]
        dsimp only
        rw [em_get h8 hc]
        dsimp only
        rw [sc_len, if_pos ⟨arr_ad q.1, fun z => q.2.1 (ad_n0.mp z), q.2.2⟩]
        exact H _ _ _ _ _ _ _ h8 hr
      · cases hr
    · cases hr
  · cases hr
theorem qIald {t : Nat} (H : eEm G W f) (h8 : 8 ≤ h.length) (hr : xIald f y pc t ls st h = some (r, h2)) : eEc G W h h2 (xIald f y pc t (ls.map (sh G.length)) (st.map (sh G.length)) (em G W h)) r := by
  unfold xIald at hr ⊢
  split at hr
  · next i a st =>
    split at hr
    · next c hc =>
      split at hr
      · next q =>
        rw [List.map_cons, List.map_cons, sh_r, sh_l]
        dsimp only
        rw [em_get h8 hc]
        dsimp only
        rw [if_pos ⟨q.1, q.2.1, fun z => q.2.2 (ad_n0.mp z)⟩]
        split at hr
        · next x hx =>
          rw [sc_get hx rfl]
          exact H _ _ _ _ _ _ _ h8 hr
        · cases hr
      · cases hr
    · cases hr
  · cases hr
theorem qLald (H : eEm G W f) (h8 : 8 ≤ h.length) (hr : xLald f y pc ls st h = some (r, h2)) : eEc G W h h2 (xLald f y pc (ls.map (sh G.length)) (st.map (sh G.length)) (em G W h)) r := by
  unfold xLald at hr ⊢
  split at hr
  · next i a st =>
    split at hr
    · next c hc =>
      split at hr
      · next q =>
        rw [List.map_cons, List.map_cons, sh_r, sh_l]
        dsimp only
        rw [em_get h8 hc]
        dsimp only
        rw [if_pos ⟨q.1, q.2.1, ad_8.mpr q.2.2⟩]
        split at hr
        · next x hx =>
          rw [sc_get hx rfl]
          exact H _ _ _ _ _ _ _ h8 hr
        · cases hr
      · cases hr
    · cases hr
  · cases hr
theorem qAald (H : eEm G W f) (h8 : 8 ≤ h.length) (hr : xAald f y pc ls st h = some (r, h2)) : eEc G W h h2 (xAald f y pc (ls.map (sh G.length)) (st.map (sh G.length)) (em G W h)) r := by
  unfold xAald at hr ⊢
  split at hr
  · next i a st =>
    split at hr
    · next c hc =>
      split at hr
      · next q =>
        rw [List.map_cons, List.map_cons, sh_r, sh_l]
        dsimp only
        rw [em_get h8 hc]
        dsimp only
        rw [if_pos ⟨q.1, q.2.1, ad_8.mpr q.2.2⟩]
        split at hr
        · next x hx =>
          have e : (sc G.length c).2[i.toNat]? = some (.inr (.inl (ad G.length x))) := by
            show (c.2.map (sh G.length))[i.toNat]? = _
            rw [List.getElem?_map, hx, Option.map_some, sh_r]
          rw [e]
          have := H _ _ _ _ _ _ _ h8 hr
          rw [List.map_cons, sh_r] at this
          exact this
        · cases hr
      · cases hr
    · cases hr
  · cases hr
/-- a cell is set -/
theorem qSet {c0 c1 : eC} {a pc2 : Nat} {ls2 st2 : List eV} (H : eEm G W f) (h8 : 8 ≤ h.length) (hc : h[a]? = some c0) (ha : 8 ≤ a) (hr : f y pc2 ls2 st2 (h.set a c1) = some (r, h2)) : eEc G W h h2 (f y pc2 (ls2.map (sh G.length)) (st2.map (sh G.length)) ((em G W h).set (ad G.length a) (sc G.length c1))) r := by
  have hl := (List.getElem?_eq_some_iff.mp hc).1
  have := H _ _ _ _ _ _ _ (by rw [List.length_set]; exact h8) hr
  rw [List.length_set, em_set ha hl] at this
  rw [ad_hi ha]
  exact this
theorem qIastore {t : Nat} (H : eEm G W f) (h8 : 8 ≤ h.length) (hr : xIastore f y pc t ls st h = some (r, h2)) : eEc G W h h2 (xIastore f y pc t (ls.map (sh G.length)) (st.map (sh G.length)) (em G W h)) r := by
  unfold xIastore at hr ⊢
  split at hr
  · next x i a st =>
    split at hr
    · next c hc =>
      split at hr
      · next q =>
        rw [List.map_cons, List.map_cons, List.map_cons, sh_r, sh_l, sh_l]
        dsimp only
        rw [em_get h8 hc]
        dsimp only
        rw [if_pos ⟨q.1, q.2.1, by show i.toNat < (c.2.map (sh G.length)).length; rw [List.length_map]; exact q.2.2.1, ad_8.mpr q.2.2.2.1, q.2.2.2.2⟩]
        have := qSet H h8 hc q.2.2.2.1 hr
        unfold sc at this ⊢
        rw [List.map_set, sh_l] at this
        exact this
      · cases hr
    · cases hr
  · cases hr
theorem qLast (H : eEm G W f) (h8 : 8 ≤ h.length) (hr : xLast f y pc ls st h = some (r, h2)) : eEc G W h h2 (xLast f y pc (ls.map (sh G.length)) (st.map (sh G.length)) (em G W h)) r := by
  unfold xLast at hr ⊢
  split at hr
  · next x i a st =>
    split at hr
    · next c hc =>
      split at hr
      · next q =>
        rw [List.map_cons, List.map_cons, List.map_cons, sh_r, sh_l, sh_g]
        dsimp only
        rw [em_get h8 hc]
        dsimp only
        rw [if_pos ⟨q.1, q.2.1, by show i.toNat < (c.2.map (sh G.length)).length; rw [List.length_map]; exact q.2.2.1, ad_8.mpr q.2.2.2⟩]
        have := qSet H h8 hc q.2.2.2 hr
        unfold sc at this ⊢
        rw [List.map_set, sh_g] at this
        exact this
      · cases hr
    · cases hr
  · cases hr
theorem qAastore (H : eEm G W f) (h8 : 8 ≤ h.length) (hr : xAastore f y pc ls st h = some (r, h2)) : eEc G W h h2 (xAastore f y pc (ls.map (sh G.length)) (st.map (sh G.length)) (em G W h)) r := by
  unfold xAastore at hr ⊢
  split at hr
  · next x i a st =>
    split at hr
    · next c d hc hd =>
      split at hr
      · next q =>
        rw [List.map_cons, List.map_cons, List.map_cons, sh_r, sh_l, sh_r]
        dsimp only
        rw [em_get h8 hc, em_get h8 hd]
        dsimp only
        rw [if_pos ⟨q.1, q.2.1, by show i.toNat < (c.2.map (sh G.length)).length; rw [List.length_map]; exact q.2.2.1, ad_8.mpr q.2.2.2.1, ad_8.mpr q.2.2.2.2⟩]
        have := qSet H h8 hc q.2.2.2.1 hr
        unfold sc at this ⊢
        rw [List.map_set, sh_r] at this
        exact this
      · cases hr
    · cases hr
  · cases hr
theorem qGet {idx : Nat} (H : eEm G W f) (h8 : 8 ≤ h.length) (hr : xGet f y pc idx ls st h = some (r, h2)) : eEc G W h h2 (xGet f y pc idx (ls.map (sh G.length)) (st.map (sh G.length)) (em G W h)) r := by
  unfold xGet at hr ⊢
  split at hr
  · next a st =>
    split at hr
    · next q c hq hc =>
      split at hr
      · next z =>
        rw [List.map_cons, sh_r]
        dsimp only
        rw [hq, em_get h8 hc]
        dsimp only
        rw [if_pos ⟨z.1, ad_8.mpr z.2⟩]
        split at hr
        · next v hv =>
          have e : (sc G.length c).2[q.2.1]? = some (sh G.length v) := by
            show (c.2.map (sh G.length))[q.2.1]? = _
            rw [List.getElem?_map, hv]
            rfl
          rw [e]
          exact H _ _ _ _ _ _ _ h8 hr
        · cases hr
      · cases hr
    · cases hr
  · cases hr
theorem sh_fit {k t : Nat} {v : eV} (h : eFit t v = true) : eFit t (sh k v) = true := by
  rcases v with x | a | w
  · exact h
  · rw [sh_r]
    simp only [eFit, Bool.and_eq_true, beq_iff_eq, bne_iff_ne, ne_eq] at h ⊢
    exact ⟨h.1, fun z => h.2 (ad_n0.mp z)⟩
  · exact h
theorem qPut {idx : Nat} (H : eEm G W f) (h8 : 8 ≤ h.length) (hr : xPut f y pc idx ls st h = some (r, h2)) : eEc G W h h2 (xPut f y pc idx (ls.map (sh G.length)) (st.map (sh G.length)) (em G W h)) r := by
  unfold xPut at hr ⊢
  split at hr
  · next v a st =>
    split at hr
    · next q c hq hc =>
      split at hr
      · next z =>
        rw [List.map_cons, List.map_cons, sh_r]
        dsimp only
        rw [hq, em_get h8 hc]
        dsimp only
        rw [if_pos ⟨z.1, ad_8.mpr z.2.1, by show q.2.1 < (c.2.map (sh G.length)).length; rw [List.length_map]; exact z.2.2.1, sh_fit z.2.2.2.1, z.2.2.2.2⟩]
        have := qSet H h8 hc z.2.1 hr
        unfold sc at this ⊢
        rw [List.map_set] at this
        exact this
      · cases hr
    · cases hr
  · cases hr
/-- a cell is made -/
theorem qPush {c : eC} {pc2 : Nat} {ls2 st2 : List eV} (H : eEm G W f) (h8 : 8 ≤ h.length) (hs : c.2.map (sh G.length) = c.2) (hr : f y pc2 ls2 (.inr (.inl h.length) :: st2) (h ++ [c]) = some (r, h2)) : eEc G W h h2 (f y pc2 (ls2.map (sh G.length)) (.inr (.inl (em G W h).length) :: st2.map (sh G.length)) (em G W h ++ [c])) r := by
  have z := H _ _ _ _ _ _ _ (by rw [List.length_append]; omega) hr
  rw [List.length_append, List.length_singleton] at z
  refine ⟨by omega, fun w => ?_⟩
  rcases w with rfl | w
  · have e : em G [] (h ++ [c]) = em G [] h ++ [c] := by
      rw [em_push h8]
      unfold sc
      rw [hs]
    have el : (em G [] h).length = ad G.length h.length := by
      rw [em_len h8, ad_hi h8]
      rfl
    have := z.2 (Or.inl rfl)
    rw [List.map_cons, sh_r, e, ← el] at this
    exact this
  · omega
theorem eDv_sh {k t : Nat} {l : List eV} (h : eDv[t]? = some l) : l.map (sh k) = l := by
  unfold eDv at h
  rw [List.getElem?_map] at h
  obtain ⟨q, -, rfl⟩ := Option.map_eq_some_iff.mp h
  rw [List.map_map]
  apply List.map_congr_left
  intro j _
  show sh k (if _ then _ else _) = _
  split <;> rfl
theorem qNew {idx : Nat} (H : eEm G W f) (h8 : 8 ≤ h.length) (hr : xNew f y pc idx ls st h = some (r, h2)) : eEc G W h h2 (xNew f y pc idx (ls.map (sh G.length)) (st.map (sh G.length)) (em G W h)) r := by
  unfold xNew at hr ⊢
  split at hr
  · next t ht =>
    split at hr
    · next q =>
      split at hr
      · next l hl =>
        simp only [if_pos q, hl]
        exact qPush H h8 (eDv_sh hl) hr
      · cases hr
    · cases hr
  · cases hr
theorem qNewa {t : Nat} {v : eV} (hv : ∀ k, sh k v = v) (H : eEm G W f) (h8 : 8 ≤ h.length) (hr : xNewa f y pc t v ls st h = some (r, h2)) : eEc G W h h2 (xNewa f y pc t v (ls.map (sh G.length)) (st.map (sh G.length)) (em G W h)) r := by
  unfold xNewa at hr ⊢
  split at hr
  · next n st =>
    split at hr
    · next q =>
      rw [List.map_cons, sh_l]
      dsimp only
      rw [if_pos q]
      exact qPush H h8 (by rw [List.map_replicate, hv]) hr
    · cases hr
  · cases hr
theorem xRow_sh {k sp dp n : Nat} {l1 l2 : List eV} : xRow (l1.map (sh k)) (l2.map (sh k)) sp dp n = (xRow l1 l2 sp dp n).map (sh k) := by
  unfold xRow
  rw [List.length_map, List.map_map]
  apply List.map_congr_left
  intro j _
  have e : ∀ (l : List eV) (i : Nat), (l.map (sh k)).getD i (.inl 0) = sh k (l.getD i (.inl 0)) := by
    intro l i
    rw [List.getD_eq_getElem?_getD, List.getD_eq_getElem?_getD, List.getElem?_map]
    cases l[i]? <;> rfl
  show (if _ then _ else _) = sh k (if _ then _ else _)
  split
  · exact e _ _
  · exact e _ _
theorem qRun {y2 : Nat} {vs : List eV} (H : eEm G W f) (h8 : 8 ≤ h.length) (hr : xRun f y pc y2 vs ls st h = some (r, h2)) : eEc G W h h2 (xRun f y pc y2 (vs.map (sh G.length)) (ls.map (sh G.length)) (st.map (sh G.length)) (em G W h)) r := by
  unfold xRun at hr ⊢
  split at hr
  · next q =>
    split at hr
    · next p hp =>
      obtain ⟨a1, a2⟩ := H _ _ _ _ _ p.1 p.2 h8 hp
      obtain ⟨b1, b2⟩ := H _ _ _ _ _ _ _ (Nat.le_trans h8 a1) hr
      refine ⟨Nat.le_trans a1 b1, fun w => ?_⟩
      have w1 : W = [] ∨ p.2.length = h.length := w.imp id (fun z => by omega)
      have w2 : W = [] ∨ h2.length = p.2.length := w.imp id (fun z => by omega)
      have e1 := a2 w1
      have e2 := b2 w2
      rw [sh_xp, List.length_map, sh_sm, if_pos q, sh_loc]
      rw [List.map_nil] at e1
      rw [e1]
      dsimp only
      rw [List.map_append] at e2
      rw [← e2]
      cases p.1 <;> rfl
    · cases hr
  · cases hr
theorem qCopy (H : eEm G W f) (h8 : 8 ≤ h.length) (hr : xCopy f y pc ls st h = some (r, h2)) : eEc G W h h2 (xCopy f y pc (ls.map (sh G.length)) (st.map (sh G.length)) (em G W h)) r := by
  unfold xCopy at hr ⊢
  split at hr
  · next n dp d sp s st =>
    split at hr
    · next cs cd hs hd =>
      split at hr
      · next q =>
        simp only [List.map_cons, sh_l, sh_r]
        rw [em_get h8 hs, em_get h8 hd]
        dsimp only
        obtain ⟨q1, q2, q3, q4, q5, q6, q7, q8, q9, q10, q11⟩ := q
        rw [sh_sm, sc_len, sc_len, if_pos ⟨q1, q2, fun z => q3 (ad_n0.mp z), ad_8.mpr q4, q5, q6, q7, q8, q9, q10, q11⟩]
        have := qSet H h8 hd q4 hr
        unfold sc at this ⊢
        rw [← xRow_sh] at this
        exact this
      · cases hr
    · cases hr
  · cases hr
theorem qCall {k0 idx : Nat} (H : eEm G W f) (h8 : 8 ≤ h.length) (hr : xCall f k0 y pc idx ls st h = some (r, h2)) : eEc G W h h2 (xCall f k0 y pc idx (ls.map (sh G.length)) (st.map (sh G.length)) (em G W h)) r := by
  unfold xCall at hr ⊢
  split at hr
  · next q hq =>
    rw [List.length_map, ← List.map_take, ← List.map_drop, ← List.map_reverse]
    split at hr
    · next k1 =>
      simp only [if_pos k1]
      split at hr
      · next k2 =>
        simp only [if_pos k2]
        exact qRun H h8 hr
      · next k2 =>
        simp only [if_neg k2]
        split at hr
        · next k3 =>
          simp only [if_pos k3]
          exact qCopy H h8 hr
        · cases hr
    · next k1 =>
      simp only [if_neg k1]
      split at hr
      · next k2 =>
        simp only [if_pos k2]
        split at hr
        · next k3 =>
          simp only [if_pos k3]
          split at hr
          · next b rest hb =>
            rw [hb, List.map_cons, sh_r]
            dsimp only
            split at hr
            · next c hc =>
              rw [em_get h8 hc]
              dsimp only
              split at hr
              · next k4 =>
                rw [if_pos ⟨k4.1, ad_8.mpr k4.2⟩]
                have := qRun H h8 hr
                rw [List.map_cons, sh_r] at this
                exact this
              · cases hr
            · cases hr
          · cases hr
        · cases hr
      · next k2 =>
        simp only [if_neg k2]
        split at hr
        · next k3 =>
          simp only [if_pos k3]
          split at hr
          · next b rest hb =>
            rw [hb, List.map_cons, sh_r]
            dsimp only
            split at hr
            · next k4 =>
              rw [if_pos (ad_8.mpr k4)]
              have := qRun H h8 hr
              rw [List.map_cons, sh_r] at this
              exact this
            · cases hr
          · cases hr
        · next k3 =>
          simp only [if_neg k3]
          split at hr
          · next k4 =>
            simp only [if_pos k4]
            split at hr
            · next b rest =>
              rw [List.map_cons, sh_r]
              dsimp only
              split at hr
              · next k5 =>
                rw [sh_sm, if_pos ⟨ad_8.mpr k5.1, k5.2⟩]
                exact H _ _ _ _ _ _ _ h8 hr
              · cases hr
            · cases hr
          · cases hr
  · cases hr
theorem eSk_8 {o i j : Nat} (h : eSk o i = some j) : j < 8 := by
  unfold eSk at h
  obtain ⟨e, he, rfl⟩ := Option.map_eq_some_iff.mp h
  have h1 : eSl.all (fun e => decide (e.2.2.1 < 8)) = true := by decide +kernel
  have h2 := List.all_eq_true.mp h1 e (List.mem_of_find?_eq_some he)
  simpa using h2
theorem exI_em {i : Instr} {len : Nat} (H : eEm G W f) (h8 : 8 ≤ h.length) (hr : exI f y pc i len ls st h = some (r, h2)) : eEc G W h h2 (exI f y pc i len (ls.map (sh G.length)) (st.map (sh G.length)) (em G W h)) r := by
  cases i
  case aload k =>
    simp only [exI] at hr ⊢
    split at hr
    · next z =>
      rw [if_pos z]
      exact qAld H h8 hr
    · cases hr
  case aload_n k =>
    simp only [exI] at hr ⊢
    split at hr
    · next z =>
      rw [if_pos z]
      exact qAld H h8 hr
    · cases hr
  case iload k =>
    simp only [exI] at hr ⊢
    split at hr
    · next z =>
      rw [if_pos z]
      exact qIld H h8 hr
    · cases hr
  case iload_n k =>
    simp only [exI] at hr ⊢
    split at hr
    · next z =>
      rw [if_pos z]
      exact qIld H h8 hr
    · cases hr
  case lload k =>
    simp only [exI] at hr ⊢
    split at hr
    · next z =>
      rw [if_pos z]
      exact qLld H h8 hr
    · cases hr
  case lload_n k =>
    simp only [exI] at hr ⊢
    split at hr
    · next z =>
      rw [if_pos z]
      exact qLld H h8 hr
    · cases hr
  case astore k =>
    simp only [exI] at hr ⊢
    split at hr
    · next z =>
      rw [if_pos z]
      exact qAst H h8 hr
    · cases hr
  case astore_n k =>
    simp only [exI] at hr ⊢
    split at hr
    · next z =>
      rw [if_pos z]
      exact qAst H h8 hr
    · cases hr
  case istore k =>
    simp only [exI] at hr ⊢
    split at hr
    · next z =>
      rw [if_pos z]
      exact qIst H h8 hr
    · cases hr
  case istore_n k =>
    simp only [exI] at hr ⊢
    split at hr
    · next z =>
      rw [if_pos z]
      exact qIst H h8 hr
    · cases hr
  case lstore k =>
    simp only [exI] at hr ⊢
    split at hr
    · next z =>
      rw [if_pos z]
      exact qLst H h8 hr
    · cases hr
  case lstore_n k =>
    simp only [exI] at hr ⊢
    split at hr
    · next z =>
      rw [if_pos z]
      exact qLst H h8 hr
    · cases hr
  case iconst n =>
    simp only [exI] at hr ⊢
    split at hr
    · next z =>
      rw [if_pos z]
      exact H _ _ _ _ _ _ _ h8 hr
    · cases hr
  case bipush n =>
    simp only [exI] at hr ⊢
    split at hr
    · next z =>
      rw [if_pos z]
      exact H _ _ _ _ _ _ _ h8 hr
    · cases hr
  case sipush n =>
    simp only [exI] at hr ⊢
    split at hr
    · next z =>
      rw [if_pos z]
      exact H _ _ _ _ _ _ _ h8 hr
    · cases hr
  case lconst n =>
    simp only [exI] at hr ⊢
    split at hr
    · next z =>
      rw [if_pos z]
      exact H _ _ _ _ _ _ _ h8 hr
    · cases hr
  case ldc n =>
    simp only [exI] at hr ⊢
    split at hr
    · next z =>
      rw [if_pos z]
      split at hr
      · next v hv =>
        exact H _ _ _ _ _ _ _ h8 hr
      · cases hr
    · cases hr
  case ldc2_w n =>
    simp only [exI] at hr ⊢
    split at hr
    · next z =>
      rw [if_pos z]
      split at hr
      · next v hv =>
        exact H _ _ _ _ _ _ _ h8 hr
      · cases hr
    · cases hr
  case iadd =>
    simp only [exI] at hr ⊢
    split at hr
    · next z =>
      rw [if_pos z]
      exact qBin H h8 hr
    · cases hr
  case isub =>
    simp only [exI] at hr ⊢
    split at hr
    · next z =>
      rw [if_pos z]
      exact qBin H h8 hr
    · cases hr
  case imul =>
    simp only [exI] at hr ⊢
    split at hr
    · next z =>
      rw [if_pos z]
      exact qBin H h8 hr
    · cases hr
  case iand =>
    simp only [exI] at hr ⊢
    split at hr
    · next z =>
      rw [if_pos z]
      exact qBin H h8 hr
    · cases hr
  case ixor =>
    simp only [exI] at hr ⊢
    split at hr
    · next z =>
      rw [if_pos z]
      exact qBin H h8 hr
    · cases hr
  case ishr =>
    simp only [exI] at hr ⊢
    split at hr
    · next z =>
      rw [if_pos z]
      exact qBin H h8 hr
    · cases hr
  case idiv =>
    simp only [exI] at hr ⊢
    split at hr
    · next z =>
      rw [if_pos z]
      exact qBin0 H h8 hr
    · cases hr
  case irem =>
    simp only [exI] at hr ⊢
    split at hr
    · next z =>
      rw [if_pos z]
      exact qBin0 H h8 hr
    · cases hr
  case ladd =>
    simp only [exI] at hr ⊢
    split at hr
    · next z =>
      rw [if_pos z]
      exact qLbin H h8 hr
    · cases hr
  case lmul =>
    simp only [exI] at hr ⊢
    split at hr
    · next z =>
      rw [if_pos z]
      exact qLbin H h8 hr
    · cases hr
  case land =>
    simp only [exI] at hr ⊢
    split at hr
    · next z =>
      rw [if_pos z]
      exact qLbin H h8 hr
    · cases hr
  case lshr =>
    simp only [exI] at hr ⊢
    split at hr
    · next z =>
      rw [if_pos z]
      exact qLshr H h8 hr
    · cases hr
  case lcmp =>
    simp only [exI] at hr ⊢
    split at hr
    · next z =>
      rw [if_pos z]
      exact qLcmp H h8 hr
    · cases hr
  case i2l =>
    simp only [exI] at hr ⊢
    split at hr
    · next z =>
      rw [if_pos z]
      exact qI2l H h8 hr
    · cases hr
  case l2i =>
    simp only [exI] at hr ⊢
    split at hr
    · next z =>
      rw [if_pos z]
      exact qL2i H h8 hr
    · cases hr
  case laload =>
    simp only [exI] at hr ⊢
    split at hr
    · next z =>
      rw [if_pos z]
      exact qLald H h8 hr
    · cases hr
  case lastore =>
    simp only [exI] at hr ⊢
    split at hr
    · next z =>
      rw [if_pos z]
      exact qLast H h8 hr
    · cases hr
  case arraylength =>
    simp only [exI] at hr ⊢
    split at hr
    · next z =>
      rw [if_pos z]
      exact qAlen H h8 hr
    · cases hr
  case iaload =>
    simp only [exI] at hr ⊢
    split at hr
    · next z =>
      rw [if_pos z]
      exact qIald H h8 hr
    · cases hr
  case aaload =>
    simp only [exI] at hr ⊢
    split at hr
    · next z =>
      rw [if_pos z]
      exact qAald H h8 hr
    · cases hr
  case iastore =>
    simp only [exI] at hr ⊢
    split at hr
    · next z =>
      rw [if_pos z]
      exact qIastore H h8 hr
    · cases hr
  case castore =>
    simp only [exI] at hr ⊢
    split at hr
    · next z =>
      rw [if_pos z]
      exact qIastore H h8 hr
    · cases hr
  case aastore =>
    simp only [exI] at hr ⊢
    split at hr
    · next z =>
      rw [if_pos z]
      exact qAastore H h8 hr
    · cases hr
  case i2c =>
    simp only [exI] at hr ⊢
    split at hr
    · next z =>
      rw [if_pos z]
      split at hr
      · exact H _ _ _ _ _ _ _ h8 hr
      · cases hr
    · cases hr
  case iinc k n =>
    simp only [exI] at hr ⊢
    split at hr
    · next z =>
      rw [List.length_map, if_pos z, List.getElem?_map]
      split at hr
      · next x hx =>
        rw [hx]
        have := H _ _ _ _ _ _ _ h8 hr
        rw [List.map_set, sh_l] at this
        exact this
      · cases hr
    · cases hr
  case dup =>
    simp only [exI] at hr ⊢
    split at hr
    · next z =>
      rw [if_pos z]
      split at hr
      · next a st =>
        rw [List.map_cons]
        dsimp only
        rw [sh_c1]
        split at hr
        · next q =>
          rw [if_pos q]
          exact H _ _ _ _ _ _ _ h8 hr
        · cases hr
      · cases hr
    · cases hr
  case pop =>
    simp only [exI] at hr ⊢
    split at hr
    · next z =>
      rw [if_pos z]
      split at hr
      · next a st =>
        rw [List.map_cons]
        dsimp only
        rw [sh_c1]
        split at hr
        · next q =>
          rw [if_pos q]
          exact H _ _ _ _ _ _ _ h8 hr
        · cases hr
      · cases hr
    · cases hr
  case dup2 =>
    simp only [exI] at hr ⊢
    split at hr
    · next z =>
      rw [if_pos z]
      split at hr
      · next a b st =>
        rw [List.map_cons, List.map_cons]
        dsimp only
        rw [sh_c1, sh_c1]
        split at hr
        · next q =>
          rw [if_pos q]
          exact H _ _ _ _ _ _ _ h8 hr
        · cases hr
      · cases hr
    · cases hr
  case ifCond c off =>
    simp only [exI] at hr ⊢
    split at hr
    · next z =>
      rw [if_pos z]
      exact qIf H h8 hr
    · cases hr
  case if_icmp c off =>
    simp only [exI] at hr ⊢
    split at hr
    · next z =>
      rw [if_pos z]
      exact qIcmp H h8 hr
    · cases hr
  case goto off =>
    simp only [exI] at hr ⊢
    split at hr
    · next z =>
      rw [if_pos z]
      exact qJ H h8 hr
    · cases hr
  case ifnull off =>
    simp only [exI] at hr ⊢
    split at hr
    · next z =>
      rw [if_pos z]
      exact qNul H h8 hr
    · cases hr
  case ifnonnull off =>
    simp only [exI] at hr ⊢
    split at hr
    · next z =>
      rw [if_pos z]
      exact qNul H h8 hr
    · cases hr
  case caload =>
    simp only [exI] at hr ⊢
    split at hr
    · next z =>
      rw [if_pos z]
      split at hr
      · next i a rest =>
        rw [List.map_cons, List.map_cons, sh_r, sh_l]
        dsimp only
        split at hr
        · next q =>
          rw [if_pos (ad_8.mpr q)]
          have := qIald H h8 hr
          rw [List.map_cons, List.map_cons, sh_r, sh_l] at this
          exact this
        · cases hr
      · cases hr
    · cases hr
  case getfield idx =>
    simp only [exI] at hr ⊢
    split at hr
    · next z =>
      rw [if_pos z]
      exact qGet H h8 hr
    · cases hr
  case putfield idx =>
    simp only [exI] at hr ⊢
    split at hr
    · next z =>
      rw [if_pos z]
      exact qPut H h8 hr
    · cases hr
  case new idx =>
    simp only [exI] at hr ⊢
    split at hr
    · next z =>
      rw [if_pos z]
      exact qNew H h8 hr
    · cases hr
  case invokestatic idx =>
    simp only [exI] at hr ⊢
    split at hr
    · next z =>
      rw [if_pos z]
      exact qCall H h8 hr
    · cases hr
  case invokevirtual idx =>
    simp only [exI] at hr ⊢
    split at hr
    · next z =>
      rw [if_pos z]
      exact qCall H h8 hr
    · cases hr
  case invokespecial idx =>
    simp only [exI] at hr ⊢
    split at hr
    · next z =>
      rw [if_pos z]
      exact qCall H h8 hr
    · cases hr
  case getstatic idx =>
    simp only [exI] at hr ⊢
    split at hr
    · next z =>
      rw [if_pos z]
      split at hr
      · next j hj =>
        have := H _ _ _ _ _ _ _ h8 hr
        rw [List.map_cons, sh_r, show ad G.length j = j by unfold ad; rw [if_pos (eSk_8 hj)]] at this
        exact this
      · cases hr
    · cases hr
  case newarray t =>
    simp only [exI] at hr ⊢
    split at hr
    · next z =>
      rw [if_pos z]
      cases t <;> first | exact qNewa (fun _ => rfl) H h8 hr | cases hr
    · cases hr
  case anewarray idx =>
    simp only [exI] at hr ⊢
    split at hr
    · next z =>
      rw [if_pos z]
      split at hr
      · next t ht =>
        split at hr
        · next q =>
          simp only [if_pos q]
          exact qNewa (fun _ => rfl) H h8 hr
        · next q =>
          simp only [if_neg q]
          split at hr
          · next q2 =>
            simp only [if_pos q2]
            exact qNewa (fun _ => rfl) H h8 hr
          · cases hr
      · cases hr
    · cases hr
  case tableswitch dflt lo hi offs =>
    simp only [exI] at hr ⊢
    split at hr
    · next x st =>
      rw [List.map_cons, sh_l]
      dsimp only
      split at hr
      · next q =>
        rw [if_pos q]
        exact qJ H h8 hr
      · next q =>
        rw [if_neg q]
        split at hr
        · next off ho =>
          exact qJ H h8 hr
        · cases hr
    · cases hr
  case lookupswitch dflt ps =>
    simp only [exI] at hr ⊢
    split at hr
    · next z =>
      rw [if_pos z]
      split at hr
      · next x st =>
        rw [List.map_cons, sh_l]
        exact qJ H h8 hr
      · cases hr
    · cases hr
  case ireturn =>
    simp only [exI] at hr ⊢
    split at hr
    · next z =>
      rw [if_pos z]
      split at hr
      · next x =>
        rw [List.map_cons, sh_l, List.map_nil]
        dsimp only
        split at hr
        · next q =>
          rw [if_pos q]
          cases hr
          exact ⟨Nat.le_refl _, fun _ => rfl⟩
        · cases hr
      · cases hr
    · cases hr
  case lreturn =>
    simp only [exI] at hr ⊢
    split at hr
    · next z =>
      rw [if_pos z]
      split at hr
      · next x =>
        rw [List.map_cons, sh_g, List.map_nil]
        dsimp only
        split at hr
        · next q =>
          rw [if_pos q]
          cases hr
          exact ⟨Nat.le_refl _, fun _ => rfl⟩
        · cases hr
      · cases hr
    · cases hr
  case areturn =>
    simp only [exI] at hr ⊢
    split at hr
    · next z =>
      rw [if_pos z]
      split at hr
      · next a =>
        rw [List.map_cons, sh_r, List.map_nil]
        dsimp only
        split at hr
        · next q =>
          rw [if_pos ⟨q.1, fun w => q.2 (ad_n0.mp w)⟩]
          cases hr
          refine ⟨Nat.le_refl _, fun _ => ?_⟩
          rw [Option.map_some, sh_r]
        · cases hr
      · cases hr
    · cases hr
  case return_ =>
    simp only [exI] at hr ⊢
    split at hr
    · next z =>
      rw [if_pos ⟨z.1, z.2.1, by rw [z.2.2]; rfl⟩]
      cases hr
      exact ⟨Nat.le_refl _, fun _ => rfl⟩
    · cases hr
  all_goals (simp only [exI] at hr; cases hr)
end EEMI
theorem ex_em {G W : eH} : ∀ n : Nat, eEm G W (ex n)
  | 0 => fun _ _ _ _ _ _ _ _ h => by cases h
  | n + 1 => fun y pc ls st h r h2 h8 hr => by
    unfold ex at hr ⊢
    split at hr
    · next i len hd => exact exI_em (ex_em n) h8 hr
    · cases hr
/-- a run over the object's own cells is a run in any heap -/
theorem wp_em {G W h h2 : eH} {y pc : Nat} {ls st : List eV} {r : Option eV} (h8 : 8 ≤ h.length) (hl : h2.length = h.length) (H : ∀ Q, (wp y pc ls st h Q ↔ Q r h2)) (Q : Option eV → eH → Prop) : wp y pc (ls.map (sh G.length)) (st.map (sh G.length)) (em G W h) Q ↔ Q (r.map (sh G.length)) (em G W h2) := by
  obtain ⟨n, r', h', a, rfl, rfl⟩ := (H (fun r' h' => r' = r ∧ h' = h2)).mpr ⟨rfl, rfl⟩
  exact wp_iff ⟨n, _, _, (ex_em n _ _ _ _ _ _ _ h8 a).2 (Or.inr hl), rfl, rfl⟩ Q
theorem wp_em0 {G h h2 : eH} {n y pc : Nat} {ls st : List eV} {r : Option eV} (h8 : 8 ≤ h.length) (H : ex n y pc ls st h = some (r, h2)) (Q : Option eV → eH → Prop) : wp y pc (ls.map (sh G.length)) (st.map (sh G.length)) (em G [] h) Q ↔ Q (r.map (sh G.length)) (em G [] h2) :=
  wp_iff ⟨n, _, _, (ex_em (W := []) n _ _ _ _ _ _ _ h8 H).2 (Or.inl rfl), rfl, rfl⟩ Q
