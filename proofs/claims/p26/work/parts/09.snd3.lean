/-! statics, new cells, the copy of a row -/
theorem eSk_spec {o i j : Nat} (h : eSk o i = some j) : 1 ≤ j ∧ ∃ f, eSn[j - 1]? = some f ∧ (Cond.fieldLink (eR o) i f.1 f.2 "[I" ∈ eWs ∨ ∃ host, Cond.fieldLinkNest (eR o) i f.1 f.2 "[I" host ∈ eNw) := by
  unfold eSk at h
  obtain ⟨e, he, rfl⟩ := Option.map_eq_some_iff.mp h
  have h1 := List.all_eq_true.mp eSl_ok e (List.mem_of_find?_eq_some he)
  have h2 := List.find?_some he
  simp only [Bool.and_eq_true, beq_iff_eq] at h2
  obtain ⟨h2, h3⟩ := h2
  subst h2; subst h3
  unfold eSchk at h1
  split at h1
  · next f hf =>
    simp only [Bool.and_eq_true, decide_eq_true_eq] at h1
    obtain ⟨a1, a2⟩ := h1
    refine ⟨a1, f, hf, ?_⟩
    split at a2
    · exact Or.inl (eAt_of a2)
    · split at a2
      · next a b c n d host hw =>
        simp only [Bool.and_eq_true, decide_eq_true_eq] at a2
        obtain ⟨⟨⟨⟨rfl, rfl⟩, rfl⟩, rfl⟩, rfl⟩ := a2
        exact Or.inr ⟨host, eNw_of hw rfl⟩
      · cases a2
  · cases h1
theorem eNk_spec {o i t : Nat} (h : eNk o i = some t) : (t < 100 ∧ ∃ q, vwCl[t]? = some q ∧ Cond.classLink (eR o) i q.1 ∈ eWs) ∨ (t = 102 ∧ Cond.classLink (eR o) i "LampChanger$Lamp" ∈ eWs) ∨ (t = 103 ∧ Cond.classLink (eR o) i "LampChanger$Beacon" ∈ eWs) := by
  unfold eNk at h
  obtain ⟨e, he, rfl⟩ := Option.map_eq_some_iff.mp h
  have h1 := List.all_eq_true.mp eNl_ok e (List.mem_of_find?_eq_some he)
  have h2 := List.find?_some he
  simp only [Bool.and_eq_true, beq_iff_eq] at h2
  obtain ⟨h2, h3⟩ := h2
  subst h2; subst h3
  unfold eNchk at h1
  split at h1
  · next hl =>
    split at h1
    · next q hq => exact Or.inl ⟨hl, q, hq, eAt_of h1⟩
    · cases h1
  · split at h1
    · next h102 => exact Or.inr (Or.inl ⟨h102, eAt_of h1⟩)
    · split at h1
      · next h103 => exact Or.inr (Or.inr ⟨h103, eAt_of h1⟩)
      · cases h1
theorem eKk_spec {o i : Nat} {n : Int} (h : eKk o i = some n) : Cond.constant (eR o) i (Int32.ofInt n) ∈ eWs ∧ w32 n = n := by
  unfold eKk at h
  obtain ⟨e, he, rfl⟩ := Option.map_eq_some_iff.mp h
  have h1 := List.all_eq_true.mp eKl_ok e (List.mem_of_find?_eq_some he)
  have h2 := List.find?_some he
  simp only [Bool.and_eq_true, beq_iff_eq] at h2
  obtain ⟨h2, h3⟩ := h2
  subst h2; subst h3
  unfold eKchk at h1
  simp only [Bool.and_eq_true, decide_eq_true_eq] at h1
  exact ⟨eAt_of h1.1.1, w32_of h1.1.2 h1.2⟩
theorem eTc_spec {ci : Nat} {C : String} {T : u_T} {N : Nat} (h : vwCl[ci]? = some (C, T, N)) {k : Nat} (hk : k < N) : parseFieldDescriptor (T k).2.2.1 = some .int ∨ parseFieldDescriptor (T k).2.2.1 = some .boolean ∨ eRefTy (parseFieldDescriptor (T k).2.2.1) = true := by
  have h1 := List.all_eq_true.mp eT_ok _ (List.mem_of_getElem? h)
  unfold eTchk at h1
  have h2 := List.all_eq_true.mp h1 k (List.mem_range.mpr hk)
  simp only [Bool.or_eq_true, decide_eq_true_eq] at h2
  rcases h2 with (h2 | h2) | h2
  · exact Or.inl h2
  · exact Or.inr (Or.inl h2)
  · exact Or.inr (Or.inr h2)
theorem eDv_spec {ci : Nat} {C : String} {T : u_T} {N : Nat} {l : List eV} (g : eGt) (hC : vwCl[ci]? = some (C, T, N)) (hl : eDv[ci]? = some l) : l.length = N ∧ (∀ ty0 : Nat → FieldType, (∀ k, k < N → parseFieldDescriptor (T k).2.2.1 = some (ty0 k)) → ∀ j, j < N → defaultValue (ty0 j) = vp_V (l.map (eTr g)) j) ∧ eOkL l := by
  unfold eDv at hl
  rw [List.getElem?_map, hC, Option.map_some] at hl
  cases hl
  refine ⟨by simp, ?_, ?_⟩
  · intro ty0 hty j hj
    have e1 : vp_V (((List.range N).map fun k => if eRefTy (parseFieldDescriptor (T k).2.2.1) then (.inr (.inl 0) : eV) else .inl 0).map (eTr g)) j = eTr g (if eRefTy (parseFieldDescriptor (T j).2.2.1) then .inr (.inl 0) else .inl 0) := by
      unfold vp_V
      rw [List.getD_eq_getElem?_getD, List.map_map, List.getElem?_map, List.getElem?_range hj]
      rfl
    rw [e1]
    have h3 := hty j hj
    rcases eTc_spec hC hj with h | h | h
    · have e := Option.some.inj (h3.symm.trans h)
      rw [h3, e]
      rfl
    · have e := Option.some.inj (h3.symm.trans h)
      rw [h3, e]
      rfl
    · rw [h3] at h ⊢
      generalize ty0 j = ty at h ⊢
      cases ty <;> first | rfl | cases h
  · intro v hv
    obtain ⟨k, -, rfl⟩ := List.mem_map.mp hv
    split
    · exact eOkV_r 0
    · exact eOkV_l ok0
section ESTEPS3
variable {f : eK} {y pc k : Nat} {ls st : List eV} {h h' : eH} {r : Option eV}
theorem sStat {idx : Nat} (hf : eSnd f) (hd : decode (eB y) pc = .ok (.getstatic idx, 3)) (hr : (match eSk (eO y) idx with
    | some j => f y (pc + 3) ls (.inr (.inl j) :: st) h
    | none => none) = some (r, h')) : eConc y pc ls st h r h' := by
  split at hr
  · next j hj =>
    obtain ⟨hj1, fd, hfd, hw⟩ := eSk_spec hj
    refine eStep (eStp0 (fun o1 o2 _ => ⟨o1, eOkL_cons.mpr ⟨eOkV_r j, o2⟩⟩) ?_) (hf _ _ _ _ _ _ _ hr)
    intro g p l1 e R s m args below meth c _ o2 _ C H locs cells slots LS Qt hW hS hL kk
    obtain ⟨hx, hb, hml, hown, hts, hin, hfr, hlo, hSt⟩ := C
    have k2 := kk LS hL
    have hj8 : j < 8 := by
      have := (List.getElem?_eq_some_iff.mp hfd).1
      have h6 : eSn.length = 6 := by decide +kernel
      omega
    rw [List.map_cons, eTr_r g (show j ≠ 0 by omega), eAd_lo g hj8] at k2
    have hZ := hSt.2.1.2 (j - 1) fd hfd
    rw [show j - 1 + 1 = j by omega] at hZ
    rcases hw with hw | ⟨host, hw⟩
    · exact va_gets hx hb hZ hS hown (hts _ hw) (fun _ h9 => h9) hd k2
    · exact va_getsN hx hb hZ hS hown (va_Nw.use rfl (hSt.2.2.1 _ hw)) (fun _ h9 => h9) hd k2
  · cases hr
/-- one cell more -/
theorem eStpPush {c1 : eC} {ls2 st2 : List eV} {pc2 : Nat} (hok : eOkL ls → eOkL st → eOkH h → eOkL ls2 ∧ eOkL st2 ∧ eOkL c1.2)
    (hW : ∀ (g : eGt) (p : Program) (l : Launch) (e : Env) (R : Room) (s : State) (m : MethodId) (args : Array Value) (below : List Frame) (meth : Method) (c : Code), eOkL ls → eOkL st → eOkH h → 8 ≤ h.length →
      eCx g y h p R s m args meth c → ∀ (H : Heap) (locs : List Loc) (cells slots : Nat) (LS : Array Slot) (Qt : State → Prop), eWd g h H → va_S (eAr g) s.heap H locs → eLr g y ls LS → cells + 1 ≤ R.cells → slots + c1.2.length ≤ R.slots →
      (∀ (H2 : Heap) (LS2 : Array Slot), H2.size = H.size + 1 → (∀ q : Nat, q < H.size → H2[q]? = H[q]?) → va_at g.2.2.1 vwCl (H.size, eEn g c1) H2 → eLr g y ls2 LS2 → W p l e R s m args below meth c H2 locs (cells + 1) (slots + c1.2.length) Qt (F0 m pc2 LS2 (st2.map (eTr g)))) →
      W p l e R s m args below meth c H locs cells slots Qt (F0 m pc LS (st.map (eTr g)))) : eStp y pc ls st h pc2 ls2 st2 (h ++ [c1]) := by
  intro o1 o2 o3 o4
  obtain ⟨p1, p2, p3⟩ := hok o1 o2 o3
  refine ⟨⟨p1, p2, eOkH_push o3 p3, eGr_push o4⟩, ?_⟩
  have e1 : (h ++ [c1]).length - h.length = 1 := by simp
  have e2 : eSz (h ++ [c1]) - eSz h = c1.2.length := by rw [eSz_push o4]; omega
  intro g p l e R s m args below meth c C H locs cells slots LS Qt hw hS hL hc hs kk
  rw [e1] at hc kk
  rw [e2] at hs kk
  refine hW g p l e R s m args below meth c o1 o2 o3 o4 C H locs cells slots LS Qt hw hS hL hc hs ?_
  intro H2 LS2 z o5 hat hL2
  refine kk H2 locs LS2 ⟨by simp; omega, by rw [z, hw.2.1, List.length_append, List.length_singleton]; omega, ?_⟩ ⟨by rw [z]; exact Nat.le_succ_of_le hS.1, fun q h1 h2 => (o5 q (Nat.lt_of_lt_of_le h1 hS.1)).trans (hS.2.1 q h1 h2), hS.2.2⟩ hL2
  rw [eWl_push o4]
  refine (hw.2.2.kept (fun k q hk => o5 q.1 ((hw.2.2 k q hk).lt))).app (fun k q hk => ?_)
  have hz : k < 1 := (List.getElem?_eq_some_iff.mp hk).1
  rw [show k = 0 by omega] at hk
  cases hk
  rw [← hw.2.1]
  exact hat
theorem eAd_len {g : eGt} {H : Heap} (hw : eWd g h H) : eTr g (.inr (.inl h.length)) = .ref H.size := by
  rw [eTr_r g (by have := hw.1; omega), eAd_hi g hw.1, hw.2.1]
theorem sNew {idx : Nat} (hf : eSnd f) (hr : xNew f y pc idx ls st h = some (r, h')) (hd : decode (eB y) pc = .ok (.new idx, 3)) : eConc y pc ls st h r h' := by
  unfold xNew at hr
  split at hr
  · next t ht =>
    split at hr
    · next h100 =>
      split at hr
      · next l hl =>
        rcases eNk_spec ht with ⟨-, ⟨C, T, N⟩, hC, hlink⟩ | ⟨z, -⟩ | ⟨z, -⟩
        · refine eStep (eStpPush (fun o1 o2 o3 => ⟨o1, eOkL_cons.mpr ⟨eOkV_r _, o2⟩, (eDv_spec (0, fun _ => 0, (fun _ => 0, fun _ _ => 0), fun _ => 0) hC hl).2.2⟩) ?_) (hf _ _ _ _ _ _ _ hr)
          intro g p l1 e R s m args below meth c o1 o2 o3 o4 CX H locs cells slots LS Qt hW hS hL hc hs kk
          obtain ⟨hx, hb, hml, hown, hts, hin, hfr, hlo, hSt⟩ := CX
          obtain ⟨d1, d2, -⟩ := eDv_spec g hC hl
          obtain ⟨v1, v2, v3⟩ := eV_spec hC
          obtain ⟨⟨ty0, hty0⟩, -⟩ := eV_ty hC
          have hKn := hSt.2.2.2.2.1 t _ hC
          dsimp only at hs kk
          rw [d1] at hs kk
          refine W.newcK hx hb hown (hts _ hlink) (hts _ v2) (hts _ v3) rfl hd hc hs hKn.2.1 rfl fun H1 kC hkC e1 z1 o5 => ?_
          have k2 := kk H1 LS z1 o5 ?_ hL
          · rw [List.map_cons, eAd_len hW] at k2
            exact k2
          · rw [eEn_obj g h100]
            exact ⟨_, hC, (u_born ty0 hts v1 hKn hkC e1 hty0).to (d2 ty0 hty0)⟩
        · omega
        · omega
      · cases hr
    · cases hr
  · cases hr
theorem e_repl {n : Nat} {v : eV} (j : Nat) (d : eV) (hd : d = v) : (List.replicate n v).getD j d = v := by
  rw [List.getD_eq_getElem?_getD, List.getElem?_replicate]
  split
  · rfl
  · exact hd
theorem sNewa {t : Nat} {at_ : ArrayType} (hf : eSnd f) (hr : xNewa f y (pc + 2) t (.inl 0) ls st h = some (r, h')) (hd : decode (eB y) pc = .ok (.newarray at_, 2)) (hat : (t = 100 ∧ at_ = .int) ∨ (t = 101 ∧ at_ = .char)) : eConc y pc ls st h r h' := by
  unfold xNewa at hr
  split at hr
  · next n st =>
    split at hr
    · next hn =>
      refine eStep (eStpPush (fun o1 o2 o3 => ⟨o1, eOkL_cons.mpr ⟨eOkV_r _, (eOkL_cons.mp o2).2⟩, fun v hv => by rw [List.eq_of_mem_replicate hv]; exact eOkV_l ok0⟩) ?_) (hf _ _ _ _ _ _ _ hr)
      intro g p l1 e R s m args below meth c o1 o2 o3 o4 CX H locs cells slots LS Qt hW hS hL hc hs kk
      obtain ⟨hx, hb, hml, hown, hts, hin, hfr, hlo, hSt⟩ := CX
      have on := (eOkL_cons.mp o2).1 n rfl
      have hn0 : ¬ Int32.ofInt n < 0 := fun q => by have := (i32_lt on ok0).mp q; omega
      rw [List.length_replicate] at hs kk
      rcases hat with ⟨rfl, rfl⟩ | ⟨rfl, rfl⟩
      · refine va_newaK (atype := .int) (N := n.toNat) (h := H.size) hx hb (hts _ eOther6) rfl hd rfl hn0 (i32_clamp on) (by show _ * 4 ≤ _; omega) hc hs rfl fun H1 cA e1 z1 o5 hAr hNm => ?_
        have hcA : cA = g.2.2.2 0 := Option.some.inj (hNm.symm.trans (hSt.2.2.2.2.2 0 _ rfl).2)
        subst hcA
        have k2 := kk H1 LS z1 o5 ?_ hL
        · rw [List.map_cons, eAd_len hW] at k2
          exact k2
        · rw [eEn_int]
          show H1[H.size]? = some (vp_cell _ _)
          rw [e1, vp_cell_i, List.length_replicate]
          congr 2
          funext j
          rw [e_repl j _ rfl]
          rfl
      · refine va_newaK (atype := .char) (N := n.toNat) (h := H.size) hx hb (hts _ eOther7) rfl hd rfl hn0 (i32_clamp on) (by show _ * 2 ≤ _; omega) hc hs rfl fun H1 cA e1 z1 o5 hAr hNm => ?_
        have hcA : cA = g.2.2.2 1 := Option.some.inj (hNm.symm.trans (hSt.2.2.2.2.2 1 _ rfl).2)
        subst hcA
        have k2 := kk H1 LS z1 o5 ?_ hL
        · rw [List.map_cons, eAd_len hW] at k2
          exact k2
        · rw [eEn_char]
          show H1[H.size]? = some (vp_cell _ _)
          rw [e1, vp_cell_i, List.length_replicate]
          congr 2
          funext j
          rw [e_repl j _ rfl]
          rfl
    · cases hr
  · cases hr
theorem sAnewa {t v idx : Nat} (hf : eSnd f) (hd : decode (eB y) pc = .ok (.anewarray idx, 3)) (hv : eNk (eO y) idx = some v) (h2 : (v = 3 ∧ t = 102) ∨ (v = 0 ∧ t = 103)) (hr : xNewa f y (pc + 3) t (.inr (.inl 0)) ls st h = some (r, h')) : eConc y pc ls st h r h' := by
  unfold xNewa at hr
  split at hr
  · next n st =>
    split at hr
    · next hn =>
      refine eStep (eStpPush (fun o1 o2 o3 => ⟨o1, eOkL_cons.mpr ⟨eOkV_r _, (eOkL_cons.mp o2).2⟩, fun v hv => by rw [List.eq_of_mem_replicate hv]; exact eOkV_r 0⟩) ?_) (hf _ _ _ _ _ _ _ hr)
      intro g p l1 e R s m args below meth c o1 o2 o3 o4 CX H locs cells slots LS Qt hW hS hL hc hs kk
      obtain ⟨hx, hb, hml, hown, hts, hin, hfr, hlo, hSt⟩ := CX
      have on := (eOkL_cons.mp o2).1 n rfl
      have hn0 : ¬ Int32.ofInt n < 0 := fun q => by have := (i32_lt on ok0).mp q; omega
      rw [List.length_replicate] at hs kk
      have key : ∀ (C : String) (t0 : Nat), Cond.classLink (eR (eO y)) idx C ∈ eWs → va_AO C s → (eTys g)[t0]? = some (g.2.2.2 t0, .object C) → (∀ l : List eV, eEn g (t, l) = .inl (g.2.2.2 t0, l.length, .inr (.inr (.inr (.inr (fun j => eRo g (l.getD j (.inl 0)))))))) →
          W p l1 e R s m args below meth c H locs cells slots Qt (F0 m pc LS (.int (Int32.ofInt n) :: st.map (eTr g))) := by
        intro C t0 hlink hAO hty hen
        refine W.anew hx hb hown (hts _ hlink) (va_AO.use hAO) rfl hd rfl hn0 (by rw [i32_clamp on]; omega) hc (by rw [i32_clamp on]; exact hs) fun cA kA comp f1 f2 f3 f4 => ?_
        rw [i32_clamp on]
        generalize hH1 : H.push ({ cls := cA, slots := Array.replicate n.toNat .null, vm := .none } : Cell) = H1
        have z1 : H1.size = H.size + 1 := by rw [← hH1, Array.size_push]
        have e1 : H1[H.size]? = some (arrV cA n.toNat (fun _ => .null)) := by rw [← hH1, Array.getElem?_push_size, ← arrV_new]
        have o5 : ∀ q : Nat, q < H.size → H1[q]? = H[q]? := fun q hq => by rw [← hH1, Array.getElem?_push, if_neg (Nat.ne_of_lt hq)]
        have hcA : cA = g.2.2.2 t0 := by
          obtain ⟨kA', comp', g1, g2, g3, g4⟩ := (hSt.2.2.2.2.2 t0 _ hty).2
          exact Option.some.inj (f1.symm.trans g4)
        subst hcA
        have k2 := kk H1 LS z1 o5 ?_ hL
        · rw [List.map_cons, eAd_len hW] at k2
          exact k2
        · rw [hen]
          show H1[H.size]? = some (vp_cell _ _)
          rw [e1, vp_cell_q, List.length_replicate]
          congr 2
          funext j
          rw [List.getD_eq_getElem?_getD, List.getElem?_replicate]
          split <;> rfl
      have hn1 : (vwCl[3]?).map (fun q => q.1) = some "LampChanger$Lamp" := by rfl
      have hn2 : (vwCl[0]?).map (fun q => q.1) = some "LampChanger$Beacon" := by rfl
      rcases h2 with ⟨rfl, rfl⟩ | ⟨rfl, rfl⟩
      · rcases eNk_spec hv with ⟨-, q, hq, hl⟩ | ⟨z, -⟩ | ⟨z, -⟩
        · rw [hq] at hn1
          rw [show q.1 = "LampChanger$Lamp" from Option.some.inj hn1] at hl
          exact key _ 2 hl hSt.2.2.2.1.1 rfl (eEn_lamp g)
        · omega
        · omega
      · rcases eNk_spec hv with ⟨-, q, hq, hl⟩ | ⟨z, -⟩ | ⟨z, -⟩
        · rw [hq] at hn2
          rw [show q.1 = "LampChanger$Beacon" from Option.some.inj hn2] at hl
          exact key _ 3 hl hSt.2.2.2.1.2 rfl (eEn_beacon g)
        · omega
        · omega
    · cases hr
  · cases hr
theorem sNewaL (hf : eSnd f) (hr : xNewa f y (pc + 2) 104 (.inr (.inr 0)) ls st h = some (r, h')) (hd : decode (eB y) pc = .ok (.newarray .long, 2)) : eConc y pc ls st h r h' := by
  unfold xNewa at hr
  split at hr
  · next n st =>
    split at hr
    · next hn =>
      refine eStep (eStpPush (fun o1 o2 o3 => ⟨o1, eOkL_cons.mpr ⟨eOkV_r _, (eOkL_cons.mp o2).2⟩, fun v hv => by rw [List.eq_of_mem_replicate hv]; exact eOkV_g 0⟩) ?_) (hf _ _ _ _ _ _ _ hr)
      intro g p l1 e R s m args below meth c o1 o2 o3 o4 CX H locs cells slots LS Qt hW hS hL hc hs kk
      obtain ⟨hx, hb, hml, hown, hts, hin, hfr, hlo, hSt⟩ := CX
      have on := (eOkL_cons.mp o2).1 n rfl
      have hn0 : ¬ Int32.ofInt n < 0 := fun q => by have := (i32_lt on ok0).mp q; omega
      rw [List.length_replicate] at hs kk
      refine va_newaK (atype := .long) (N := n.toNat) (h := H.size) hx hb (hts _ eOther8) rfl hd rfl hn0 (i32_clamp on) (by show _ * 8 ≤ _; omega) hc hs rfl fun H1 cA e1 z1 o5 hAr hNm => ?_
      have hcA : cA = g.2.2.2 4 := Option.some.inj (hNm.symm.trans (hSt.2.2.2.2.2 4 _ rfl).2)
      subst hcA
      have k2 := kk H1 LS z1 o5 ?_ hL
      · rw [List.map_cons, eAd_len hW] at k2
        exact k2
      · rw [eEn_long]
        show H1[H.size]? = some (vp_cell _ _)
        rw [e1, vp_cell_l, List.length_replicate]
        congr 2
        funext j
        rw [List.getD_eq_getElem?_getD, List.getElem?_replicate]
        split <;> rfl
    · cases hr
  · cases hr
end ESTEPS3
