/-! calls by their kinds; every instruction; every run -/
def eOvchk (y : Nat) : Bool := decide (eO y < 13) && (eSt.getD y false || eI y || (vwCl[eG (eO y)]?).isSome)
set_option maxRecDepth 100000 in
theorem eOv_ok : (List.range eMp.length).all eOvchk = true := by decide +kernel
theorem e_div {a b : Int} (ha : -2147483648 ≤ a ∧ a ≤ 2147483647) (hb : -2147483648 ≤ b ∧ b ≤ 2147483647) : Int32.ofInt (a.tdiv b) = Int32.ofInt a / Int32.ofInt b := by
  rw [← Int32.ofInt_toInt (Int32.ofInt a / Int32.ofInt b), Int32.toInt_div, show (Int32.ofInt a).toInt = a from w32_of ha.1 ha.2, show (Int32.ofInt b).toInt = b from w32_of hb.1 hb.2]
  apply Int32.toInt_inj.mp
  simp
theorem e_rem {a b : Int} (ha : -2147483648 ≤ a ∧ a ≤ 2147483647) (hb : -2147483648 ≤ b ∧ b ≤ 2147483647) : Int32.ofInt (a.tmod b) = Int32.ofInt a - Int32.ofInt a / Int32.ofInt b * Int32.ofInt b := by
  rw [← Int32.ofInt_toInt (Int32.ofInt a - Int32.ofInt a / Int32.ofInt b * Int32.ofInt b), rem_toInt, show (Int32.ofInt a).toInt = a from w32_of ha.1 ha.2, show (Int32.ofInt b).toInt = b from w32_of hb.1 hb.2]
section EALL
variable {f : eK} {y pc k : Nat} {ls st : List eV} {h h' : eH} {r : Option eV}
theorem e_split {n : Nat} (g : eGt) (st : List eV) : st.map (eTr g) = ((st.take n).reverse.map (eTr g)).reverse ++ (st.drop n).map (eTr g) := by
  rw [List.map_reverse, List.reverse_reverse, ← List.map_append, List.take_append_drop]
theorem sCallS {idx : Nat} (hf : eSnd f) (hd : decode (eB y) pc = .ok (.invokestatic idx, 3)) (hr : xCall f 0 y pc idx ls st h = some (r, h')) : eConc y pc ls st h r h' := by
  unfold xCall at hr
  split at hr
  · next q hq =>
    rw [if_pos rfl] at hr
    split at hr
    · next hcond =>
      obtain ⟨hk, hn⟩ := hcond
      have hy2 : q.2 < eMp.length := by
        rcases hk with z | z
        · exact ((eCk_copy hq).1 z).2.2
        · exact ((eCk_copy hq).2.2.2.1 z).2.2
      refine sRun hf hy2 hr (fun o2 => ?_) ?_
      · have : eOkL (st.take (eA q.2)) ∧ eOkL (st.drop (eA q.2)) := eOkL_app.mp (by rw [List.take_append_drop]; exact o2)
        exact ⟨fun v hv => this.1 v (List.mem_reverse.mp hv), this.2⟩
      intro r1 h1 g p l e R s m args below meth c C H locs cells slots LS hW hS hL hc hs hfr hlo hst hM
      obtain ⟨hx, hb, hml, hown, hts, hin, -, -, hSt⟩ := C
      obtain ⟨m1, m2, m3, m4, m5, m6, m7, m8, m9, m10⟩ := eM_spec hy2
      have hlen : ((st.take (eA q.2)).reverse.map (eTr g)).length = eA q.2 := by simp; omega
      have hroom : 2 * (F0 m pc LS (st.map (eTr g))).monitorRoom + (((st.drop (eA q.2)).map (eTr g)).map fun v => v.category).sum ≤ 8 := lv_room (by rw [eTr_sum]; exact hst)
      rcases hk with z | z
      · obtain ⟨w1, w2, -⟩ := (eCk_copy hq).1 z
        rw [if_pos w2] at m2
        exact ⟨_, va_runS (cc := eB y) (nL := eN y) (As := (st.take (eA q.2)).reverse.map (eTr g)) (rest := (st.drop (eA q.2)).map (eTr g)) (Ts := eWs) (own := eR (eO y)) (n := eA q.2) (bytes := eB q.2) (maxL := eN q.2) (ret := eT q.2) ⟨hx, hb, hml, hown, hts⟩ hM
          ⟨⟨rfl, rfl, hfr, hlo, e_pay hts hy2, List.mem_cons_self, hts _ m1, hts _ m4, m7, e_sig hy2, hts _ w1⟩, hts _ m2⟩ (e_pre _ hW hS hSt) rfl hlen hL.2.1 (e_split g st) hroom hd ⟨hc, hs⟩⟩
      · obtain ⟨⟨host, w1⟩, w2, -⟩ := (eCk_copy hq).2.2.2.1 z
        rw [if_pos w2] at m2
        exact ⟨_, va_runSN (cc := eB y) (nL := eN y) (As := (st.take (eA q.2)).reverse.map (eTr g)) (rest := (st.drop (eA q.2)).map (eTr g)) (Ts := eWs) (own := eR (eO y)) (n := eA q.2) (bytes := eB q.2) (maxL := eN q.2) (ret := eT q.2) (host := host) ⟨hx, hb, hml, hown, hts⟩ hM
          ⟨⟨⟨rfl, rfl, hfr, hlo, e_pay hts hy2, List.mem_cons_self⟩, hts _ m1, hts _ m4, m7, e_sig hy2, va_Nw.use rfl (hSt.2.2.1 _ w1)⟩, hts _ m2, trivial⟩ (e_pre _ hW hS hSt) rfl hlen hL.2.1 (e_split g st) hroom hd ⟨hc, hs⟩⟩
    · split at hr
      · next z =>
        obtain ⟨q1, q2⟩ := q
        dsimp only at z
        subst z
        exact sCopy hf hq hr hd
      · cases hr
  · cases hr
theorem sCallV {idx : Nat} (hf : eSnd f) (hd : decode (eB y) pc = .ok (.invokevirtual idx, 3)) (hr : xCall f 1 y pc idx ls st h = some (r, h')) : eConc y pc ls st h r h' := by
  unfold xCall at hr
  split at hr
  · next q hq =>
    rw [if_neg (by decide), if_pos rfl] at hr
    split at hr
    · next hcond =>
      obtain ⟨z, hn⟩ := hcond
      obtain ⟨w1, w2, w3, hy2⟩ := (eCk_copy hq).2.1 z
      split at hr
      · next b rest hb0 =>
        split at hr
        · next cb hcb =>
          split at hr
          · next hcl =>
            obtain ⟨hcl, hb8⟩ := hcl
            have hste : ∀ g : eGt, st.map (eTr g) = ((st.take (eA q.2)).reverse.map (eTr g)).reverse ++ .ref (eAd g b) :: rest.map (eTr g) := by
              intro g
              rw [e_split (n := eA q.2) g st, hb0, List.map_cons, eTr_r g (show b ≠ 0 by omega)]
            refine sRun hf hy2 hr (fun o2 => ?_) ?_
            · have h2 : eOkL (st.take (eA q.2)) ∧ eOkL (st.drop (eA q.2)) := eOkL_app.mp (by rw [List.take_append_drop]; exact o2)
              rw [hb0] at h2
              exact ⟨eOkL_cons.mpr ⟨eOkV_r b, fun v hv => h2.1 v (List.mem_reverse.mp hv)⟩, (eOkL_cons.mp h2.2).2⟩
            intro r1 h1 g p l e R s m args below meth c C H locs cells slots LS hW hS hL hc hs hfr hlo hst hM
            obtain ⟨hx, hb, hml, hown, hts, hin, -, -, hSt⟩ := C
            obtain ⟨m1, m2, m3, m4, m5, m6, m7, m8, m9, m10⟩ := eM_spec hy2
            rw [w2] at m2
            rw [if_neg (by decide)] at m2
            have hlen : ((st.take (eA q.2)).reverse.map (eTr g)).length = eA q.2 := by simp; omega
            have hroom : 2 * (F0 m pc LS (st.map (eTr g))).monitorRoom + ((rest.map (eTr g)).map fun v => v.category).sum ≤ 8 := lv_room (by rw [eTr_sum]; exact hst)
            have hpre := e_pre (Sum.inr (Sum.inl b) :: (st.take (eA q.2)).reverse) hW hS hSt
            rw [List.map_cons, eTr_r g (show b ≠ 0 by omega)] at hpre
            have hget := eWl_get (g := g) hcb hb8
            have hcls : ∃ cellB : Cell, H[eAd g b]? = some cellB ∧ cellB.vm.isStatics = false ∧ s.vm.findClass (eY q.2).cls = some cellB.cls := by
              cases hvw : vwCl[cb.1]? with
              | none =>
                exfalso
                have hov := List.all_eq_true.mp eOv_ok (q.2) (List.mem_range.mpr hy2)
                unfold eOvchk at hov
                rw [w2, w3, ← hcl, hvw] at hov
                simp at hov
              | some qq =>
                have ht : cb.1 < 100 := Nat.lt_trans (List.getElem?_eq_some_iff.mp hvw).1 (by decide)
                obtain ⟨t, lc⟩ := cb
                rw [eEn_obj g ht] at hget
                obtain ⟨cell, g1, g2, g3⟩ := va_recv hSt.2.2.2.2 hW.2.2 hvw hget
                have ho : eO q.2 < 13 ∧ True := ⟨by
                  have hov := List.all_eq_true.mp eOv_ok (q.2) (List.mem_range.mpr hy2)
                  unfold eOvchk at hov
                  simp only [Bool.and_eq_true, decide_eq_true_eq] at hov
                  exact hov.1, trivial⟩
                have hoo := List.all_eq_true.mp eO_ok (eO q.2) (List.mem_range.mpr ho.1)
                unfold eOchk at hoo
                dsimp only at hcl hvw
                rw [← hcl, hvw] at hoo
                simp only [decide_eq_true_eq] at hoo
                rw [eAd_hi g hb8]
                exact ⟨cell, g1, g2, by rw [← m8, ← hoo]; exact g3⟩
            exact ⟨_, va_runV (cc := eB y) (nL := eN y) (C := (eY q.2).cls) (b := eAd g b) (As := (st.take (eA q.2)).reverse.map (eTr g)) (rest := rest.map (eTr g)) (Ts := eWs) (own := eR (eO y)) (n := eA q.2) (bytes := eB q.2) (maxL := eN q.2) (ret := eT q.2) ⟨hx, hb, hml, hown, hts⟩ hM
              ⟨⟨rfl, rfl, hfr, hlo, e_pay hts hy2, List.mem_cons_self, hts _ m1, hts _ m4, m7, e_sig hy2, hts _ w1⟩, hts _ m2, hts _ (m3 w2 w3)⟩ ⟨hpre.1, hcls, hpre.2⟩ rfl hlen hL.2.1 (hste g) hroom hd ⟨hc, hs⟩⟩
          · cases hr
        · cases hr
      · cases hr
    · cases hr
  · cases hr
theorem sCallI {idx : Nat} (hf : eSnd f) (hd : decode (eB y) pc = .ok (.invokespecial idx, 3)) (hr : xCall f 2 y pc idx ls st h = some (r, h')) : eConc y pc ls st h r h' := by
  unfold xCall at hr
  split at hr
  · next q hq =>
    rw [if_neg (by decide), if_neg (by decide)] at hr
    split at hr
    · next hcond =>
      obtain ⟨z, hn⟩ := hcond
      obtain ⟨w1, w2, w3, hy2⟩ := (eCk_copy hq).2.2.1 z
      split at hr
      · next b rest hb0 =>
        split at hr
        · next hb8 =>
          have hste : ∀ g : eGt, st.map (eTr g) = ((st.take (eA q.2)).reverse.map (eTr g)).reverse ++ .ref (eAd g b) :: rest.map (eTr g) := by
            intro g
            rw [e_split (n := eA q.2) g st, hb0, List.map_cons, eTr_r g (show b ≠ 0 by omega)]
          refine sRun hf hy2 hr (fun o2 => ?_) ?_
          · have h2 : eOkL (st.take (eA q.2)) ∧ eOkL (st.drop (eA q.2)) := eOkL_app.mp (by rw [List.take_append_drop]; exact o2)
            rw [hb0] at h2
            exact ⟨eOkL_cons.mpr ⟨eOkV_r b, fun v hv => h2.1 v (List.mem_reverse.mp hv)⟩, (eOkL_cons.mp h2.2).2⟩
          intro r1 h1 g p l e R s m args below meth c C H locs cells slots LS hW hS hL hc hs hfr hlo hst hM
          obtain ⟨hx, hb, hml, hown, hts, hin, -, -, hSt⟩ := C
          obtain ⟨m1, m2, m3, m4, m5, m6, m7, m8, m9, m10⟩ := eM_spec hy2
          rw [w2] at m2
          rw [if_neg (by decide)] at m2
          have hlen : ((st.take (eA q.2)).reverse.map (eTr g)).length = eA q.2 := by simp; omega
          have hroom : 2 * (F0 m pc LS (st.map (eTr g))).monitorRoom + ((rest.map (eTr g)).map fun v => v.category).sum ≤ 8 := lv_room (by rw [eTr_sum]; exact hst)
          have hpre := e_pre (Sum.inr (Sum.inl b) :: (st.take (eA q.2)).reverse) hW hS hSt
          rw [List.map_cons, eTr_r g (show b ≠ 0 by omega)] at hpre
          have hret := m10 w3
          have hpay := e_pay hts hy2
          have hcd := hts _ m1
          unfold eWy at hM hpay
          rw [hret] at hM hcd hpay
          exact ⟨_, va_runI (cc := eB y) (nL := eN y) (b := eAd g b) (As := (st.take (eA q.2)).reverse.map (eTr g)) (rest := rest.map (eTr g)) (Ts := eWs) (own := eR (eO y)) (n := eA q.2) (bytes := eB q.2) (maxL := eN q.2) ⟨hx, hb, hml, hown, hts⟩ hM
            ⟨⟨rfl, rfl, hfr, hlo, hpay, List.mem_cons_self, hcd, hts _ m4, m7, e_sig hy2, hts _ w1⟩, m9 w3, hts _ m2⟩ hpre rfl hlen hL.2.1 (hste g) hroom hd ⟨hc, hs⟩⟩
        · cases hr
      · cases hr
    · split at hr
      · next z =>
        have w1 := (eCk_copy hq).2.2.2.2.1 z
        cases st with
        | nil => cases hr
        | cons v rest =>
        cases v with
        | inl x => cases hr
        | inr z =>
         cases z with
         | inr w => cases hr
         | inl b =>
          dsimp only at hr
          split at hr
          · next hcond2 =>
            obtain ⟨hb8, hst8, hfr1, hlo1⟩ := hcond2
            refine eStep (eStp0 (fun o1 o2 _ => ⟨o1, (eOkL_cons.mp o2).2⟩) ?_) (hf _ _ _ _ _ _ _ hr)
            intro g p l e R s m args below meth c _ o2 _ C H locs cells slots LS Qt hW hS hL kk
            obtain ⟨hx, hb, hml, hown, hts, hin, hfr, hlo, hSt⟩ := C
            rw [List.map_cons, eTr_r g (show b ≠ 0 by omega)]
            refine W.objInit hx hb hown (hts _ w1) (hts _ eOther1) (hts _ eOther2) rfl (by show LS.size = _; rw [hml]; exact hL.2.1) rfl hd (by rw [hfr]; exact hfr1) (by rw [hlo]; show 2 * 0 + _ + 12 ≤ _; rw [eTr_sum]; omega) ?_
            exact kk LS hL
          · cases hr
      · cases hr
  · cases hr
theorem sRetI (hd : decode (eB y) pc = .ok (.ireturn, 1)) (hr : (match st with
    | [.inl x] => if eRetI y x = true then some (some (.inl x), h) else none
    | _ => none) = some (r, h')) : eConc y pc ls st h r h' := by
  split at hr
  · next x =>
    split at hr
    · next hc =>
      cases hr
      intro o1 o2 o3 o4
      refine ⟨fun v hv => by cases hv; exact (eOkL_cons.mp o2).1, o3, eGr.refl, ?_⟩
      intro g p l e R s m args below meth c C H locs cells slots LS Qt hW hS hL _ _ hend
      have := hend H locs LS pc [.int (Int32.ofInt x)] hW hS (Or.inr (Or.inl ⟨x, rfl, rfl, hd, ?_⟩))
      · rw [Nat.sub_self, Nat.sub_self, Nat.add_zero, Nat.add_zero] at this
        exact this
      · simp only [eRetI, Bool.or_eq_true, Bool.and_eq_true, decide_eq_true_eq, beq_iff_eq] at hc
        rcases hc with hc | ⟨hc, rfl | rfl⟩
        · exact ⟨_, hc, rfl⟩
        · exact ⟨_, hc, by decide +kernel⟩
        · exact ⟨_, hc, by decide +kernel⟩
    · cases hr
  · cases hr
theorem sRetA (hd : decode (eB y) pc = .ok (.areturn, 1)) (hr : (match st with
    | [.inr (.inl a)] => if eRetR y = true ∧ a ≠ 0 then some (some (.inr (.inl a)), h) else none
    | _ => none) = some (r, h')) : eConc y pc ls st h r h' := by
  split at hr
  · next a =>
    split at hr
    · next hc =>
      cases hr
      intro o1 o2 o3 o4
      refine ⟨fun v hv => by cases hv; exact (eOkL_cons.mp o2).1, o3, eGr.refl, ?_⟩
      intro g p l e R s m args below meth c C H locs cells slots LS Qt hW hS hL _ _ hend
      have := hend H locs LS pc [.ref (eAd g a)] hW hS (Or.inr (Or.inr (Or.inl ⟨a, rfl, hc.2, rfl, hd, ?_⟩)))
      · rw [Nat.sub_self, Nat.sub_self, Nat.add_zero, Nat.add_zero] at this
        rw [List.map_cons, eTr_r g hc.2]
        exact this
      · have := hc.1
        unfold eRetR at this
        split at this
        · next n hn => exact ⟨_, hn⟩
        · cases this
    · cases hr
  · cases hr
theorem sRetL (hd : decode (eB y) pc = .ok (.lreturn, 1)) (hr : (match st with
    | [.inr (.inr x)] => if eT y = some .long then some (some (.inr (.inr x)), h) else none
    | _ => none) = some (r, h')) : eConc y pc ls st h r h' := by
  split at hr
  · next x =>
    split at hr
    · next hc =>
      cases hr
      intro o1 o2 o3 o4
      refine ⟨fun v hv => by cases hv; exact eOkV_g x, o3, eGr.refl, ?_⟩
      intro g p l e R s m args below meth c C H locs cells slots LS Qt hW hS hL _ _ hend
      have := hend H locs LS pc [.long x] hW hS (Or.inr (Or.inr (Or.inr ⟨x, rfl, rfl, hd, hc⟩)))
      rw [Nat.sub_self, Nat.sub_self, Nat.add_zero, Nat.add_zero] at this
      exact this
    · cases hr
  · cases hr
theorem eJk_spec {o i : Nat} {n : Int64} (h : eJk o i = some n) : Cond.constantLong (eR o) i n ∈ eWs := by
  unfold eJk at h
  obtain ⟨e, he, rfl⟩ := Option.map_eq_some_iff.mp h
  have h1 := List.all_eq_true.mp eJl_ok e (List.mem_of_find?_eq_some he)
  have h2 := List.find?_some he
  simp only [Bool.and_eq_true, beq_iff_eq] at h2
  obtain ⟨h2, h3⟩ := h2
  subst h2; subst h3
  exact eAt_of h1
theorem sRetV (hd : decode (eB y) pc = .ok (.return_, 1)) (ht : eT y = none) (hst : st = []) (hr : some ((none : Option eV), h) = some (r, h')) : eConc y pc ls st h r h' := by
  cases hr
  subst hst
  intro o1 o2 o3 o4
  refine ⟨fun v hv => (by cases hv), o3, eGr.refl, ?_⟩
  intro g p l e R s m args below meth c C H locs cells slots LS Qt hW hS hL _ _ hend
  have := hend H locs LS pc [] hW hS (Or.inl ⟨rfl, rfl, hd, ht⟩)
  rw [Nat.sub_self, Nat.sub_self, Nat.add_zero, Nat.add_zero] at this
  exact this
theorem i32_op {op : Int → Int → Int} (h : ∀ a b, ∃ z, op a b = w32 z) : ∀ a b, -2147483648 ≤ op a b ∧ op a b ≤ 2147483647 := fun a b => by
  obtain ⟨z, hz⟩ := h a b
  rw [hz]
  exact w32_ok z
/-- EVERY INSTRUCTION -/
theorem exI_snd (hf : eSnd f) {i : Instr} {len : Nat} (hd : decode (eB y) pc = .ok (i, len)) (hr : exI f y pc i len ls st h = some (r, h')) : eConc y pc ls st h r h' := by
  cases i
  case aload k =>
    simp only [exI] at hr; split at hr
    · next z => subst z; exact sAld hf hr (Or.inl ⟨hd, rfl⟩)
    · cases hr
  case aload_n k =>
    simp only [exI] at hr; split at hr
    · next z => subst z; exact sAld hf hr (Or.inr ⟨k, rfl, hd, rfl⟩)
    · cases hr
  case iload k =>
    simp only [exI] at hr; split at hr
    · next z => subst z; exact sIld hf hr (Or.inl ⟨hd, rfl⟩)
    · cases hr
  case iload_n k =>
    simp only [exI] at hr; split at hr
    · next z => subst z; exact sIld hf hr (Or.inr ⟨k, rfl, hd, rfl⟩)
    · cases hr
  case astore k =>
    simp only [exI] at hr; split at hr
    · next z => subst z; exact sAst hf hr (Or.inl ⟨hd, rfl⟩)
    · cases hr
  case astore_n k =>
    simp only [exI] at hr; split at hr
    · next z => subst z; exact sAst hf hr (Or.inr ⟨k, rfl, hd, rfl⟩)
    · cases hr
  case istore k =>
    simp only [exI] at hr; split at hr
    · next z => subst z; exact sIst hf hr (Or.inl ⟨hd, rfl⟩)
    · cases hr
  case istore_n k =>
    simp only [exI] at hr; split at hr
    · next z => subst z; exact sIst hf hr (Or.inr ⟨k, rfl, hd, rfl⟩)
    · cases hr
  case iconst n =>
    simp only [exI] at hr; split at hr
    · next z =>
      obtain ⟨rfl, z2⟩ := z
      exact sConst hf hr z2 (fun g p l e R s m args below meth c H locs cells slots LS Qt rest C k => lv_iconst C.1 C.2.1 hd rfl k)
    · cases hr
  case bipush n =>
    simp only [exI] at hr; split at hr
    · next z =>
      obtain ⟨rfl, z1, z2⟩ := z
      exact sConst hf hr z2 (fun g p l e R s m args below meth c H locs cells slots LS Qt rest C k => lv_bipush C.1 C.2.1 hd z1 k)
    · cases hr
  case sipush n =>
    simp only [exI] at hr; split at hr
    · next z =>
      obtain ⟨rfl, z1, z2⟩ := z
      exact sConst hf hr z2 (fun g p l e R s m args below meth c H locs cells slots LS Qt rest C k => lv_sipush C.1 C.2.1 hd z1 k)
    · cases hr
  case ldc n =>
    simp only [exI] at hr; split at hr
    · next z =>
      subst z
      split at hr
      · next v hv =>
        obtain ⟨k1, k2⟩ := eKk_spec hv
        exact sConst hf hr k2 (fun g p l e R s m args below meth c H locs cells slots LS Qt rest C k => lv_ldc C.1 C.2.1 C.2.2.2.1 (C.2.2.2.2.1 _ k1) hd k)
      · cases hr
    · cases hr
  case iadd =>
    simp only [exI] at hr; split at hr
    · next z =>
      subst z
      exact sBin hf hr (fun a b => w32_ok _) (fun g p l e R s m args below meth c H locs cells slots LS Qt rest a b C _ _ k => lv_iadd C.1 C.2.1 hd (by rw [w32_i, Int32.ofInt_add] at k; exact k))
    · cases hr
  case isub =>
    simp only [exI] at hr; split at hr
    · next z =>
      subst z
      exact sBin hf hr (fun a b => w32_ok _) (fun g p l e R s m args below meth c H locs cells slots LS Qt rest a b C _ _ k => lv_isub C.1 C.2.1 hd (by rw [w32_i, Int32.ofInt_sub] at k; exact k))
    · cases hr
  case imul =>
    simp only [exI] at hr; split at hr
    · next z =>
      subst z
      exact sBin hf hr (fun a b => w32_ok _) (fun g p l e R s m args below meth c H locs cells slots LS Qt rest a b C _ _ k => lv_imul C.1 C.2.1 hd (by rw [w32_i, Int32.ofInt_mul] at k; exact k))
    · cases hr
  case idiv =>
    simp only [exI] at hr; split at hr
    · next z =>
      subst z
      exact sBin0 hf hr (fun a b => w32_ok _) (fun g p l e R s m args below meth c H locs cells slots LS Qt rest a b C oa ob hb0 k => lv_idiv C.1 C.2.1 hd (fun q => hb0 ((i32_eq ob ok0).mp q)) (by
        rw [w32_i, show Int32.ofInt (a.tdiv b) = Int32.ofInt a / Int32.ofInt b from e_div oa ob] at k; exact k))
    · cases hr
  case irem =>
    simp only [exI] at hr; split at hr
    · next z =>
      subst z
      exact sBin0 hf hr (fun a b => w32_ok _) (fun g p l e R s m args below meth c H locs cells slots LS Qt rest a b C oa ob hb0 k => lv_irem C.1 C.2.1 hd (fun q => hb0 ((i32_eq ob ok0).mp q)) (by
        rw [w32_i, show Int32.ofInt (a.tmod b) = Int32.ofInt a - Int32.ofInt a / Int32.ofInt b * Int32.ofInt b from e_rem oa ob] at k; exact k))
    · cases hr
  case iand =>
    simp only [exI] at hr; split at hr
    · next z =>
      subst z
      exact sBin hf hr (fun a b => i32_ok _) (fun g p l e R s m args below meth c H locs cells slots LS Qt rest a b C _ _ k => lv_iand C.1 C.2.1 hd (by rw [Int32.ofInt_toInt] at k; exact k))
    · cases hr
  case ixor =>
    simp only [exI] at hr; split at hr
    · next z =>
      subst z
      exact sBin hf hr (fun a b => i32_ok _) (fun g p l e R s m args below meth c H locs cells slots LS Qt rest a b C _ _ k => lv_ixor C.1 C.2.1 hd (by rw [Int32.ofInt_toInt] at k; exact k))
    · cases hr
  case i2c =>
    simp only [exI] at hr; split at hr
    · next z => subst z; exact sI2c hf hd hr
    · cases hr
  case iinc k n =>
    simp only [exI] at hr; split at hr
    · next z => obtain ⟨rfl, z2⟩ := z; exact sIinc hf hd z2 hr
    · cases hr
  case lload k =>
    simp only [exI] at hr; split at hr
    · next z => subst z; exact sLld hf hr (Or.inl ⟨hd, rfl⟩)
    · cases hr
  case lload_n k =>
    simp only [exI] at hr; split at hr
    · next z => subst z; exact sLld hf hr (Or.inr ⟨k, rfl, hd, rfl⟩)
    · cases hr
  case lstore k =>
    simp only [exI] at hr; split at hr
    · next z => subst z; exact sLst hf hr (Or.inl ⟨hd, rfl⟩)
    · cases hr
  case lstore_n k =>
    simp only [exI] at hr; split at hr
    · next z => subst z; exact sLst hf hr (Or.inr ⟨k, rfl, hd, rfl⟩)
    · cases hr
  case lshr =>
    simp only [exI] at hr; split at hr
    · next z => subst z; exact sLshr hf hr hd
    · cases hr
  case lcmp =>
    simp only [exI] at hr; split at hr
    · next z => subst z; exact sLcmp hf hr hd
    · cases hr
  case i2l =>
    simp only [exI] at hr; split at hr
    · next z => subst z; exact sI2l hf hr hd
    · cases hr
  case l2i =>
    simp only [exI] at hr; split at hr
    · next z => subst z; exact sL2i hf hr hd
    · cases hr
  case laload =>
    simp only [exI] at hr; split at hr
    · next z => subst z; exact sLald hf hr hd
    · cases hr
  case lastore =>
    simp only [exI] at hr; split at hr
    · next z => subst z; exact sLast hf hr hd
    · cases hr
  case lreturn =>
    simp only [exI] at hr; split at hr
    · next z => subst z; exact sRetL hd hr
    · cases hr
  case ladd =>
    simp only [exI] at hr; split at hr
    · next z =>
      subst z
      exact sLbin hf hr (fun g p l e R s m args below meth c H locs cells slots LS Qt rest a b C k => lv_ladd C.1 C.2.1 hd k)
    · cases hr
  case lmul =>
    simp only [exI] at hr; split at hr
    · next z =>
      subst z
      exact sLbin hf hr (fun g p l e R s m args below meth c H locs cells slots LS Qt rest a b C k => lv_lmul C.1 C.2.1 hd k)
    · cases hr
  case land =>
    simp only [exI] at hr; split at hr
    · next z =>
      subst z
      exact sLbin hf hr (fun g p l e R s m args below meth c H locs cells slots LS Qt rest a b C k => lv_land C.1 C.2.1 hd k)
    · cases hr
  case lconst n =>
    simp only [exI] at hr; split at hr
    · next z =>
      subst z
      exact sLpush hf hr (fun g p l e R s m args below meth c H locs cells slots LS Qt rest C k => lv_lconst C.1 C.2.1 hd rfl k)
    · cases hr
  case ldc2_w n =>
    simp only [exI] at hr; split at hr
    · next z =>
      subst z
      split at hr
      · next v hv =>
        exact sLpush hf hr (fun g p l e R s m args below meth c H locs cells slots LS Qt rest C k => lv_ldc2 C.1 C.2.1 C.2.2.2.1 (C.2.2.2.2.1 _ (eJk_spec hv)) hd k)
      · cases hr
    · cases hr
  case ishr =>
    simp only [exI] at hr; split at hr
    · next z =>
      subst z
      exact sBin hf hr (fun a b => i32_ok _) (fun g p l e R s m args below meth c H locs cells slots LS Qt rest a b C _ _ k => lv_ishr C.1 C.2.1 hd (by rw [Int32.ofInt_toInt] at k; exact k))
    · cases hr
  case dup =>
    simp only [exI] at hr; split at hr
    · next z => subst z; exact sDup hf hd hr
    · cases hr
  case pop =>
    simp only [exI] at hr; split at hr
    · next z => subst z; exact sPop hf hd hr
    · cases hr
  case dup2 =>
    simp only [exI] at hr; split at hr
    · next z => subst z; exact sDup2 hf hd hr
    · cases hr
  case ifCond c off =>
    simp only [exI] at hr; split at hr
    · next z => subst z; exact sIf hf hr hd
    · cases hr
  case if_icmp c off =>
    simp only [exI] at hr; split at hr
    · next z => subst z; exact sIcmp hf hr hd
    · cases hr
  case goto off =>
    simp only [exI] at hr; split at hr
    · next z =>
      subst z
      refine sJ hf hr (fun o1 o2 => ⟨o1, o2⟩) ?_
      intro tgt ht g p l e R s m args below meth c _ o2 C H locs cells slots LS Qt hL kk
      exact lv_goto C.1 C.2.1 hd ht (kk LS hL)
    · cases hr
  case ifnull off =>
    simp only [exI] at hr; split at hr
    · next z => subst z; exact sNul (jump := false) hf hr hd
    · cases hr
  case ifnonnull off =>
    simp only [exI] at hr; split at hr
    · next z => subst z; exact sNul (jump := true) hf hr hd
    · cases hr
  case arraylength =>
    simp only [exI] at hr; split at hr
    · next z => subst z; exact sAlen hf hr hd
    · cases hr
  case iaload =>
    simp only [exI] at hr; split at hr
    · next z => subst z; exact sIald hf hr (Or.inl ⟨rfl, hd⟩)
    · cases hr
  case caload =>
    simp only [exI] at hr; split at hr
    · next z =>
      subst z
      split at hr
      · next i a rest =>
        split at hr
        · next h8 => exact sIald hf hr (Or.inr ⟨rfl, hd, fun i' a' rest' q => by cases q; exact h8⟩)
        · cases hr
      · cases hr
    · cases hr
  case aaload =>
    simp only [exI] at hr; split at hr
    · next z => subst z; exact sAald hf hr hd
    · cases hr
  case iastore =>
    simp only [exI] at hr; split at hr
    · next z => subst z; exact sIastore hf hr (Or.inl ⟨rfl, hd⟩)
    · cases hr
  case castore =>
    simp only [exI] at hr; split at hr
    · next z => subst z; exact sIastore hf hr (Or.inr ⟨rfl, hd⟩)
    · cases hr
  case aastore =>
    simp only [exI] at hr; split at hr
    · next z => subst z; exact sAastore hf hr hd
    · cases hr
  case getfield idx =>
    simp only [exI] at hr; split at hr
    · next z => subst z; exact sGet hf hr hd
    · cases hr
  case putfield idx =>
    simp only [exI] at hr; split at hr
    · next z => subst z; exact sPut hf hr hd
    · cases hr
  case getstatic idx =>
    simp only [exI] at hr; split at hr
    · next z => subst z; exact sStat hf hd hr
    · cases hr
  case new idx =>
    simp only [exI] at hr; split at hr
    · next z => subst z; exact sNew hf hr hd
    · cases hr
  case newarray t =>
    simp only [exI] at hr; split at hr
    · next z =>
      subst z
      cases t <;> first | exact sNewa hf hr hd (Or.inl ⟨rfl, rfl⟩) | exact sNewa hf hr hd (Or.inr ⟨rfl, rfl⟩) | exact sNewaL hf hr hd | cases hr
    · cases hr
  case anewarray idx =>
    simp only [exI] at hr; split at hr
    · next z =>
      subst z
      split at hr
      · next t ht =>
        split at hr
        · next h2 => exact sAnewa hf hd ht (Or.inl ⟨h2, rfl⟩) hr
        · split at hr
          · next h3 => exact sAnewa hf hd ht (Or.inr ⟨h3, rfl⟩) hr
          · cases hr
      · cases hr
    · cases hr
  case invokestatic idx =>
    simp only [exI] at hr; split at hr
    · next z => subst z; exact sCallS hf hd hr
    · cases hr
  case invokevirtual idx =>
    simp only [exI] at hr; split at hr
    · next z => subst z; exact sCallV hf hd hr
    · cases hr
  case invokespecial idx =>
    simp only [exI] at hr; split at hr
    · next z => subst z; exact sCallI hf hd hr
    · cases hr
  case tableswitch dflt lo hi offs =>
    simp only [exI] at hr
    exact sTable hf hd hr
  case lookupswitch dflt ps =>
    simp only [exI] at hr; split at hr
    · next z => exact sLookup hf hd z hr
    · cases hr
  case ireturn =>
    simp only [exI] at hr; split at hr
    · next z => subst z; exact sRetI hd hr
    · cases hr
  case areturn =>
    simp only [exI] at hr; split at hr
    · next z => subst z; exact sRetA hd hr
    · cases hr
  case return_ =>
    simp only [exI] at hr; split at hr
    · next z => obtain ⟨rfl, z2, z3⟩ := z; exact sRetV hd z2 z3 hr
    · cases hr
  all_goals (simp only [exI] at hr; cases hr)
end EALL
/-- EVERY RUN -/
theorem ex_snd : ∀ n : Nat, eSnd (ex n)
  | 0 => fun _ _ _ _ _ _ _ hr => by cases hr
  | n + 1 => fun y pc ls st h r h' hr => by
    unfold ex at hr
    split at hr
    · next i len hd => exact exI_snd (ex_snd n) hd hr
    · cases hr
