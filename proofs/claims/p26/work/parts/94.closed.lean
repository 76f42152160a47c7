/-! a run that looks at nothing but its own object: by the kernel over the object's own cells, and then in the law's heap -/
def cRes (x : eRes) (r : Int) : Bool := match x with
  | some (some (.inl v), h) => v == r && (h.length == 158 && zs (h.drop 8) == z0)
  | _ => false
theorem cRes_eq {x : eRes} {r : Int} (h : cRes x r = true) : ∃ h2 : eH, x = some (some (.inl r), h2) ∧ h2.length = 158 ∧ zs (h2.drop 8) = z0 := by
  unfold cRes at h
  split at h
  · next v h2 =>
    simp only [Bool.and_eq_true, beq_iff_eq] at h
    exact ⟨h2, by rw [h.1], h.2.1, h.2.2⟩
  · cases h
def okb (v : eV) : Bool := match v with
  | .inl x => decide (-2147483648 ≤ x) && decide (x ≤ 2147483647)
  | _ => true
theorem okb_V {v : eV} (h : okb v = true) : eOkV v := by
  intro x hx
  subst hx
  simpa [okb] using h
theorem okb_L {l : List eV} (h : l.all okb = true) : eOkL l := fun v hv => okb_V (List.all_eq_true.mp h v hv)
theorem hq_ok0 : ((hq 158).all fun c => c.2.all okb) = true := by decide +kernel
theorem hq_ok : eOkH (hq 158) := fun c hc => okb_L (List.all_eq_true.mp hq_ok0 c hc)
section SPEC94
variable {S : List Int} {D E : eD} {G W : eH} {y pc N : Nat} {ls : List eV} {r : Int}
theorem w_closed (hl : ls.all okb = true) (hk : cRes (exT N y pc ls [] (hq 158)) r = true) : ∃ G2 : eH, (G2.length = G.length + 150 ∧ zs G2 = zs G + z0) ∧ ∀ Q, (wp y pc (ls.map (sh G.length)) [] (em G [] (hp S Dz)) Q ↔ Q (some (.inl r)) (em G2 [] (hS S))) := by
  obtain ⟨h2, e, hl2, hz2⟩ := cRes_eq hk
  have e := exT_ex N _ _ _ _ _ _ e
  have gr := (ex_snd N y pc ls [] (hq 158) (some (.inl r)) h2 e (okb_L hl) eOkL_nil hq_ok (by rw [hq_len]; decide)).2.2.1
  have h7 : (hq 158)[7]? = some pzC := by rw [hq_get (by decide)]; rfl
  obtain ⟨a1, a2⟩ := ex_pz (c := ceF S Dz 7) N _ _ _ _ _ _ _ h7 e
  rw [hq_hp] at a1
  generalize h3e : h2.set 7 (ceF S Dz 7) = h3 at a1
  have hl3 : h3.length = 158 := by rw [← h3e, List.length_set]; exact hl2
  have hz3 : zs (h3.drop 8) = z0 := by
    rw [← h3e, List.drop_set, if_pos (by decide)]
    exact hz2
  have tk : h3.take 8 = hS S := by
    rw [← hp_take (D := Dz)]
    apply List.ext_getElem?
    intro i
    rw [List.getElem?_take, List.getElem?_take]
    split
    · next hi =>
      by_cases h7' : i = 7
      · subst h7'
        rw [← h3e, List.getElem?_set_self (by omega), hp_get (by decide)]
      · rw [← h3e, List.getElem?_set_ne (fun z => h7' z.symm), gr.2.2 i hi, hq_get (by omega), if_neg h7', hp_get (by omega), ceF_S h7']
    · rfl
  have q := fun Q => wp_em0 (G := G) hp_8 a1 Q
  have eg : em G [] h3 = em (G ++ (h3.drop 8).map (sc G.length)) [] (hS S) := by
    rw [em_hS]
    unfold em
    rw [tk, hS_sc]
    simp
  rw [eg] at q
  exact ⟨G ++ (h3.drop 8).map (sc G.length), ⟨by rw [List.length_append, List.length_map, List.length_drop, hl3], by rw [zs_app, zs_sc, hz3]⟩, q⟩
/-- the fault of a text -/
theorem w_fault {w1 w2 : Int64} (hk : cRes (exT N 109 9 [.inr (.inr w1), .inr (.inl 0), .inr (.inr w2), .inr (.inl 0), .inr (.inl 8), .inr (.inl 0)] [] (hq 158)) r = true) : ∃ G2 : eH, (G2.length = G.length + 150 ∧ zs G2 = zs G + z0) ∧ ∀ Q, (wp 109 0 [.inr (.inr w1), .inr (.inl 0), .inr (.inr w2), .inr (.inl 0), .inr (.inl 0), .inr (.inl 0)] [] (em G [] (hS S)) Q ↔ Q (some (.inl r)) (em G2 [] (hS S))) := by
  obtain ⟨G2, hg, e⟩ := w_closed (S := S) (G := G) (by rfl) hk
  have e' : ∀ Q, (wp 109 9 [.inr (.inr w1), .inr (.inl 0), .inr (.inr w2), .inr (.inl 0), .inr (.inl (8 + G.length)), .inr (.inl 0)] [] (em G [] (hp S Dz)) Q ↔ Q (some (.inl r)) (em G2 [] (hS S))) := e
  refine ⟨G2, hg, fun Q => ?_⟩
  rw [← e' Q]
  simp (disch := first | assumption | omega | decide | exact b2i_01 _ | (unfold lx; omega)) only [s109_0, s109_3, s109_4, s109_7, kont_some, kont_none, w32_of, if_true, if_false, tdv, tmd, setA_eq, up_setA, rd_hi, Int.reduceToNat, if_neg (show ¬ (1 : Int) = 0 by decide), w_init]
end SPEC94
