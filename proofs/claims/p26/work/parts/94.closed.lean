/-! a run that looks at nothing but its own object: by the kernel over the object's own cells, and then in the law's heap -/
def cRes (x : eRes) (r : Int) : Bool := match x with
  | some (some (.inl v), h) => v == r && (h.length == 158 && zs (h.drop 8) == z0)
  | _ => false
theorem cRes_eq {x : eRes} {r : Int} (h : cRes x r = true) : ∃ h2 : eH, x = some (some (.inl r), h2) ∧ h2.length = 158 ∧ zs (h2.drop 8) = z0 := by
  unfold cRes at h
  split at h
  · next v h2 =>
    simp only [Bool.and_eq_true, beq_iff_eq] at h
    exact ⟨h2, by rw [h.1], h.2.1, h.2.2⟩
  · cases h
def okb (v : eV) : Bool := match v with
  | .inl x => decide (-2147483648 ≤ x) && decide (x ≤ 2147483647)
  | _ => true
theorem okb_V {v : eV} (h : okb v = true) : eOkV v := by
  intro x hx
  subst hx
  simpa [okb] using h
theorem okb_L {l : List eV} (h : l.all okb = true) : eOkL l := fun v hv => okb_V (List.all_eq_true.mp h v hv)
/-- the object's cells by their numbers, the script's cell poisoned -/
def hqD (D : eD) : eH := (List.range 158).map fun k => if k = 7 then pzC else ceF [] D k
theorem hqD_len {D : eD} : (hqD D).length = 158 := by simp [hqD]
theorem hqD_get {D : eD} {k : Nat} (h : k < 158) : (hqD D)[k]? = some (if k = 7 then pzC else ceF [] D k) := by
  unfold hqD
  rw [List.getElem?_map, List.getElem?_range h]
  rfl
theorem hqD_hp {S : List Int} {D E : eD} : (hqD D).set 7 (ceF S E 7) = hp S D := by
  apply List.ext_getElem?
  intro i
  by_cases h7 : i = 7
  · subst h7
    rw [List.getElem?_set_self (by rw [hqD_len]; decide), hp_get (by decide), ceF_lo (D := E) (E := D) (by decide)]
  · rw [List.getElem?_set_ne (fun z => h7 z.symm)]
    by_cases hi : i < 158
    · rw [hqD_get hi, if_neg h7, hp_get hi, ceF_S h7]
    · rw [List.getElem?_eq_none (by rw [hqD_len]; omega), List.getElem?_eq_none (by rw [hp_len]; omega)]
def hok (h : eH) : Bool := h.all fun c => c.2.all okb
theorem hok_ok {h : eH} (e : hok h = true) : eOkH h := fun c hc => okb_L (List.all_eq_true.mp e c hc)
theorem hq_ok : hok (hqD Dz) = true := by decide +kernel
def cHp (x : eRes) (r : Int) (h : eH) : Bool := match x with
  | some (some (.inl v), h2) => v == r && eHb h2 h
  | _ => false
theorem cHp_eq {x : eRes} {r : Int} {h : eH} (e : cHp x r h = true) : x = some (some (.inl r), h) := by
  unfold cHp at e
  split at e
  · next v h2 =>
    simp only [Bool.and_eq_true, beq_iff_eq] at e
    rw [e.1, eHb_eq _ _ e.2]
  · cases e
section SPEC94
variable {S : List Int} {D E : eD} {G W : eH} {y pc N : Nat} {ls : List eV} {r : Int}
theorem c_call {D2 : eD} (hk : cHp (exT N y pc ls [] (hqD D)) r (hqD D2) = true) (Q : Option eV → eH → Prop) : wp y pc (ls.map (sh G.length)) [] (em G W (hp S D)) Q ↔ Q (some (.inl r)) (em G W (hp S D2)) := by
  have e := exT_ex N _ _ _ _ _ _ (cHp_eq hk)
  have h7 : (hqD D)[7]? = some pzC := by rw [hqD_get (by decide)]; rfl
  obtain ⟨a1, a2⟩ := ex_pz (c := ceF S D 7) N _ _ _ _ _ _ _ h7 e
  rw [hqD_hp, hqD_hp] at a1
  exact wp_em (r := some (.inl r)) hp_8 (by rw [hp_len, hp_len]) (fun Q => wp_iff ⟨N, _, _, a1, rfl, rfl⟩ Q) Q
theorem w_closed (ho : hok (hqD D) = true) (hl : ls.all okb = true) (hk : cRes (exT N y pc ls [] (hqD D)) r = true) : ∃ G2 : eH, (G2.length = G.length + 150 ∧ zs G2 = zs G + z0) ∧ ∀ Q, (wp y pc (ls.map (sh G.length)) [] (em G [] (hp S D)) Q ↔ Q (some (.inl r)) (em G2 [] (hS S))) := by
  obtain ⟨h2, e, hl2, hz2⟩ := cRes_eq hk
  have e := exT_ex N _ _ _ _ _ _ e
  have gr := (ex_snd N y pc ls [] (hqD D) (some (.inl r)) h2 e (okb_L hl) eOkL_nil (hok_ok ho) (by rw [hqD_len]; decide)).2.2.1
  have h7 : (hqD D)[7]? = some pzC := by rw [hqD_get (by decide)]; rfl
  obtain ⟨a1, a2⟩ := ex_pz (c := ceF S D 7) N _ _ _ _ _ _ _ h7 e
  rw [hqD_hp] at a1
  generalize h3e : h2.set 7 (ceF S D 7) = h3 at a1
  have hl3 : h3.length = 158 := by rw [← h3e, List.length_set]; exact hl2
  have hz3 : zs (h3.drop 8) = z0 := by
    rw [← h3e, List.drop_set, if_pos (by decide)]
    exact hz2
  have tk : h3.take 8 = hS S := by
    rw [← hp_take (D := D)]
    apply List.ext_getElem?
    intro i
    rw [List.getElem?_take, List.getElem?_take]
    split
    · next hi =>
      by_cases h7' : i = 7
      · subst h7'
        rw [← h3e, List.getElem?_set_self (by omega), hp_get (by decide)]
      · rw [← h3e, List.getElem?_set_ne (fun z => h7' z.symm), gr.2.2 i hi, hqD_get (by omega), if_neg h7', hp_get (by omega), ceF_S h7']
    · rfl
  have q := fun Q => wp_em0 (G := G) hp_8 a1 Q
  have eg : em G [] h3 = em (G ++ (h3.drop 8).map (sc G.length)) [] (hS S) := by
    rw [em_hS]
    unfold em
    rw [tk, hS_sc]
    simp
  rw [eg] at q
  exact ⟨G ++ (h3.drop 8).map (sc G.length), ⟨by rw [List.length_append, List.length_map, List.length_drop, hl3], by rw [zs_app, zs_sc, hz3]⟩, q⟩
/-- the fault of a text -/
theorem w_fault {w1 w2 : Int64} (hk : cRes (exT N 109 9 [.inr (.inr w1), .inr (.inl 0), .inr (.inr w2), .inr (.inl 0), .inr (.inl 8), .inr (.inl 0)] [] (hqD Dz)) r = true) : ∃ G2 : eH, (G2.length = G.length + 150 ∧ zs G2 = zs G + z0) ∧ ∀ Q, (wp 109 0 [.inr (.inr w1), .inr (.inl 0), .inr (.inr w2), .inr (.inl 0), .inr (.inl 0), .inr (.inl 0)] [] (em G [] (hS S)) Q ↔ Q (some (.inl r)) (em G2 [] (hS S))) := by
  obtain ⟨G2, hg, e⟩ := w_closed (S := S) (G := G) hq_ok (by rfl) hk
  have e' : ∀ Q, (wp 109 9 [.inr (.inr w1), .inr (.inl 0), .inr (.inr w2), .inr (.inl 0), .inr (.inl (8 + G.length)), .inr (.inl 0)] [] (em G [] (hp S Dz)) Q ↔ Q (some (.inl r)) (em G2 [] (hS S))) := e
  refine ⟨G2, hg, fun Q => ?_⟩
  rw [← e' Q]
  simp (disch := first | assumption | omega | decide | exact b2i_01 _ | (unfold lx; omega)) only [s109_0, s109_3, s109_4, s109_7, kont_some, kont_none, w32_of, if_true, if_false, tdv, tmd, setA_eq, up_setA, rd_hi, Int.reduceToNat, if_neg (show ¬ (1 : Int) = 0 by decide), w_init]
end SPEC94
