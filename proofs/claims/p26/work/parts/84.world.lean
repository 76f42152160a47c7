/-! the heap of the law: eight first cells, what was made before (G), the object, the row of longs behind it (W) -/
def hZ : eH := ((999, []) : eC) :: (eSv.map fun l => ((100, l.map fun z => (.inl z : eV)) : eC)) ++ [pzC]
def dzB : List (List Int) := [[0, 0, 0, 0, 0, 0, 36, 12], [80, 2, 2, 0], [], [0, 0, 0, -5], [], [-1], [-1], [-1], [-1], [-1], [-1], [-1], [], [], [], [], [], [], [], []]
def dzR : List Int := [0, 36, 12, 80, 2, 2, 0, 0, -5, 0, 0, -5, 0, 0, 0, 0, -5, 0, 0, 0, 0, -5, 0, 0, 0, 0, -5, 0, 0, 0, 0, -5, 0, 0, 0, 0, -5]
def dzL : List (List Int) := [[], [], [], [], [], [], [], [], []] ++ dzB ++ dzB ++ dzB ++ [[-1], [], []] ++ dzB ++ dzB ++ dzB ++ dzB ++ [[], [], [], [], [], [], [], dzR]
def Dz : eD := fun k j => (dzL.getD k []).getD j 0
def hq (n : Nat) : eH := (List.range n).map fun k => if k = 7 then pzC else ceF [] Dz k
def eHb : eH → eH → Bool
  | [], [] => true
  | c :: s, d :: t => decide (c = d) && eHb s t
  | _, _ => false
theorem eHb_eq : ∀ (a b : eH), eHb a b = true → a = b
  | [], [], _ => rfl
  | c :: s, d :: t, h => by
    simp only [eHb, Bool.and_eq_true, decide_eq_true_eq] at h
    rw [h.1, eHb_eq s t h.2]
  | [], _ :: _, h => by cases h
  | _ :: _, [], h => by cases h
def eRb (x : eRes) (h : eH) : Bool := match x with
  | some (none, h') => eHb h' h
  | _ => false
theorem eRb_eq {x : eRes} {h : eH} (e : eRb x h = true) : x = some (none, h) := by
  unfold eRb at e
  split at e
  · rw [eHb_eq _ _ e]
  · cases e
theorem k67 : ex 3000 67 0 (eLoc 67 [.inr (.inl 8)]) [] (hZ ++ [(7, eDv.getD 7 [])]) = some (none, hq 158) := eRb_eq (by decide +kernel)
theorem ceF_S {S : List Int} {D : eD} {k : Nat} (h : k ≠ 7) : ceF [] D k = ceF S D k := by
  unfold ceF slF rd stv ln
  simp only [if_neg h]
theorem ceF_lo {S : List Int} {D E : eD} {k : Nat} (h : k < 8) : ceF S D k = ceF S E k := by
  unfold ceF slF rd
  simp only [if_pos h]
theorem hq_len {n : Nat} : (hq n).length = n := by simp [hq]
theorem hq_get {n k : Nat} (h : k < n) : (hq n)[k]? = some (if k = 7 then pzC else ceF [] Dz k) := by
  unfold hq
  rw [List.getElem?_map, List.getElem?_range h]
  rfl
theorem hq_hp {S : List Int} : (hq 158).set 7 (ceF S Dz 7) = hp S Dz := by
  apply List.ext_getElem?
  intro i
  by_cases h7 : i = 7
  · subst h7
    rw [List.getElem?_set_self (by rw [hq_len]; decide), hp_get (by decide)]
  · rw [List.getElem?_set_ne (fun z => h7 z.symm)]
    by_cases hi : i < 158
    · rw [hq_get hi, if_neg h7, hp_get hi, ceF_S h7]
    · rw [List.getElem?_eq_none (by rw [hq_len]; omega), List.getElem?_eq_none (by rw [hp_len]; omega)]
def hS (S : List Int) : eH := (List.range 8).map (ceF S Dz)
theorem hS_len {S : List Int} : (hS S).length = 8 := by simp [hS]
theorem hS_get {S : List Int} {k : Nat} (h : k < 8) : (hS S)[k]? = some (ceF S Dz k) := by
  unfold hS
  rw [List.getElem?_map, List.getElem?_range h]
  rfl
theorem hp_take {S : List Int} {D : eD} : (hp S D).take 8 = hS S := by
  unfold hp hS
  rw [← List.map_take, List.take_range, show min 8 158 = 8 from rfl]
  apply List.map_congr_left
  intro k hk
  exact ceF_lo (List.mem_range.mp hk)
theorem ceF_sc {S : List Int} {D : eD} {k n : Nat} (h : k < 8) : sc n (ceF S D k) = ceF S D k := by
  unfold sc ceF
  refine Prod.ext rfl ?_
  show ((List.range (ln S k)).map (slF S D k)).map (sh n) = _
  rw [List.map_map]
  apply List.map_congr_left
  intro j _
  have e : ro (tg k) j = none := by rcases tg_lo k h with z | z <;> rw [z] <;> rfl
  show sh n (slF S D k j) = _
  unfold slF
  rw [e]
  rfl
theorem hS_sc {S : List Int} {n : Nat} : (hS S).map (sc n) = hS S := by
  unfold hS
  rw [List.map_map]
  apply List.map_congr_left
  intro k hk
  exact ceF_sc (List.mem_range.mp hk)
theorem hZ_len : hZ.length = 8 := rfl
theorem hZ_get1 : ((List.range 8).all fun k => k == 7 || decide (hZ.getD k (0, []) = ceF [] Dz k)) = true := by decide +kernel
theorem hZ_get0 (k : Nat) (h : k < 8) (h7 : k ≠ 7) : hZ.getD k (0, []) = ceF [] Dz k := by
  have := List.all_eq_true.mp hZ_get1 k (List.mem_range.mpr h)
  simpa [h7] using this
theorem hZ_get (k : Nat) (h : k < 8) (h7 : k ≠ 7) : hZ[k]? = some (ceF [] Dz k) := by
  rw [← hZ_get0 k h h7, List.getD_eq_getElem?_getD, List.getElem?_eq_getElem (by rw [hZ_len]; exact h)]
  rfl
theorem hZ_S {S : List Int} : hZ.set 7 (ceF S Dz 7) = hS S := by
  apply List.ext_getElem?
  intro i
  by_cases h7 : i = 7
  · subst h7
    rw [List.getElem?_set_self (by rw [hZ_len]; decide), hS_get (by decide)]
  · rw [List.getElem?_set_ne (fun z => h7 z.symm)]
    by_cases hi : i < 8
    · rw [hZ_get i hi h7, hS_get hi, ceF_S h7]
    · rw [List.getElem?_eq_none (by rw [hZ_len]; omega), List.getElem?_eq_none (by rw [hS_len]; omega)]
theorem ce_7 {L : Nat} {xs : Nat → Int32} : ((100, (List.range L).map fun j => (.inl (xs j).toInt : eV)) : eC) = ceF ((List.range L).map fun j => (xs j).toInt) Dz 7 := by
  unfold ceF
  refine Prod.ext rfl ?_
  have hl : ln ((List.range L).map fun j => (xs j).toInt) 7 = L := by
    show ((List.range L).map fun j => (xs j).toInt).length = L
    simp
  rw [hl]
  apply List.map_congr_left
  intro j hj
  rw [List.mem_range] at hj
  show _ = (.inl (((List.range L).map fun j => (xs j).toInt).getD j 0) : eV)
  rw [List.getD_eq_getElem?_getD, List.getElem?_map, List.getElem?_range hj]
  rfl
theorem eH0_S {L : Nat} {xs : Nat → Int32} : eH0 L xs = hS ((List.range L).map fun j => (xs j).toInt) := by
  rw [← hZ_S, ← ce_7]
  rfl
section WORLD84
variable {S : List Int} {D : eD} {G W : eH} {y pc : Nat} {ls st : List eV} {Q : Option eV → eH → Prop} {L : List Int64} {w : Int64}
/-- the object's cells, moved -/
def ob (k : Nat) (S : List Int) (D : eD) : eH := ((hp S D).drop 8).map (sc k)
theorem ob_len {k : Nat} : (ob k S D).length = 150 := by simp [ob, hp_len]
theorem em_hS : em G W (hS S) = hS S ++ G ++ W := by
  unfold em
  rw [List.take_of_length_le (by rw [hS_len]; decide), List.drop_eq_nil_of_le (by rw [hS_len]; decide), hS_sc]
  simp
theorem em_hp : em G W (hp S D) = hS S ++ G ++ ob G.length S D ++ W := by
  unfold em ob
  rw [hp_take, hS_sc]
/-- the object is left: it joins what was made before -/
theorem em_left : em G [] (hp S D) = em (G ++ ob G.length S D) [] (hS S) := by
  rw [em_hp, em_hS]
  simp
theorem em_o : (em G W (hp S D))[8 + G.length]? = some (sc G.length (ceF S D 8)) := by
  have := em_get (G := G) (W := W) (h := hp S D) (a := 8) (by rw [hp_len]; decide) (hp_get (by decide))
  rw [ad_hi (by decide)] at this
  exact this
theorem em_7 : (em G W (hp S D))[7]? = some (ceF S D 7) := by
  have := em_get (G := G) (W := W) (h := hp S D) (a := 7) (by rw [hp_len]; decide) (hp_get (by decide))
  rw [ceF_sc (by decide)] at this
  exact this
theorem em_hlen : (em G [] (hp S D)).length = 158 + G.length := by
  rw [em_len (by rw [hp_len]; decide), hp_len]
  rfl
theorem em_pushW {c : eC} : em G [] (hp S D) ++ [c] = em G [c] (hp S D) := by
  unfold em
  simp
theorem em_W {c : eC} : (em G [c] (hp S D))[158 + G.length]? = some c := by
  rw [← em_pushW, List.getElem?_append_right (by rw [em_hlen]; omega), em_hlen, Nat.sub_self]
  rfl
theorem em_setW {c d : eC} : (em G [c] (hp S D)).set (158 + G.length) d = em G [d] (hp S D) := by
  rw [← em_pushW, ← em_pushW, List.set_append_right _ _ (by rw [em_hlen]; omega), em_hlen, Nat.sub_self]
  rfl
def lgs (L : List Int64) : List eV := L.map fun w => .inr (.inr w)
theorem lgs_len : (lgs L).length = L.length := List.length_map ..
theorem lgs_get {i : Nat} (h : i < L.length) : (lgs L)[i]? = some (.inr (.inr (L.getD i 0))) := by
  unfold lgs
  rw [List.getElem?_map, List.getElem?_eq_getElem h, List.getD_eq_getElem?_getD, List.getElem?_eq_getElem h]
  rfl
theorem lgs_set {i : Nat} : (lgs L).set i (.inr (.inr w)) = lgs (L.set i w) := by
  unfold lgs
  rw [List.map_set]
theorem lgs_rep {n : Nat} : (List.replicate n (.inr (.inr 0)) : List eV) = lgs (List.replicate n 0) := by
  unfold lgs
  rw [List.map_replicate]
theorem w_len7 (hd : decode (eB y) pc = .ok (.arraylength, 1)) (hL : S.length ≤ 2048) : wp y pc ls (.inr (.inl 7) :: st) (em G W (hp S D)) Q ↔ wp y (pc + 1) ls (.inl S.length :: st) (em G W (hp S D)) Q := by
  have e : ((List.range (ln S 7)).map (slF S D 7)).length = S.length := by rw [List.length_map, List.length_range]; rfl
  have z := w_lenh (st := st) (ls := ls) (Q := Q) hd (em_7 (G := G) (W := W) (S := S) (D := D)) (by decide) (by rw [e]; omega)
  rw [e] at z
  exact z
theorem w_ld7 {x : Int} (hd : decode (eB y) pc = .ok (.iaload, 1)) (h0 : 0 ≤ x) (h1 : x < S.length) : wp y pc ls (.inl x :: .inr (.inl 7) :: st) (em G W (hp S D)) Q ↔ wp y (pc + 1) ls (.inl (S.getD x.toNat 0) :: st) (em G W (hp S D)) Q :=
  w_ialdh hd em_7 (by decide) h0 (ce_get (show x.toNat < S.length by omega))
theorem w_newo {idx : Nat} (hd : decode (eB y) pc = .ok (.new idx, 3)) (hk : eNk (eO y) idx = some 7) : wp y pc ls st (em G [] (hS S)) Q ↔ wp y (pc + 3) ls (.inr (.inl (8 + G.length)) :: st) (em G [] (hS S ++ [(7, eDv.getD 7 [])])) Q := by
  have e2 : eDv[7]? = some (eDv.getD 7 []) := by decide +kernel
  have e3 : em G [] (hS S ++ [(7, eDv.getD 7 [])]) = em G [] (hS S) ++ [(7, eDv.getD 7 [])] := by
    rw [em_push (by rw [hS_len]; decide)]
    unfold sc
    rw [eDv_sh e2]
  have e4 : (em G [] (hS S)).length = 8 + G.length := by
    rw [em_len (by rw [hS_len]; decide), hS_len]
    rfl
  refine wp_step hd (fun f => ?_)
  show xNew f y pc idx ls st _ = _
  unfold xNew
  rw [hk]
  dsimp only
  rw [if_pos (by decide), e2, e3, e4]
theorem w_init : wp 67 0 [.inr (.inl (8 + G.length))] [] (em G [] (hS S ++ [(7, eDv.getD 7 [])])) Q ↔ Q none (em G [] (hp S Dz)) := by
  have h7 : (hZ ++ [((7, eDv.getD 7 []) : eC)])[7]? = some pzC := rfl
  obtain ⟨a1, a2⟩ := ex_pz (c := ceF S Dz 7) 3000 _ _ _ _ _ _ _ h7 k67
  have e1 : (hZ ++ [((7, eDv.getD 7 []) : eC)]).set 7 (ceF S Dz 7) = hS S ++ [(7, eDv.getD 7 [])] := by
    rw [List.set_append_left _ _ (by rw [hZ_len]; decide), hZ_S]
  rw [e1, hq_hp] at a1
  exact wp_em0 (G := G) (by rw [List.length_append, hS_len]; omega) a1 Q
theorem w_newL {x : Int} (hd : decode (eB y) pc = .ok (.newarray .long, 2)) (h0 : 0 ≤ x ∧ x < 1000000) : wp y pc ls (.inl x :: st) (em G [] (hp S D)) Q ↔ wp y (pc + 2) ls (.inr (.inl (158 + G.length)) :: st) (em G [(104, lgs (List.replicate x.toNat 0))] (hp S D)) Q := by
  have z := w_newl (ls := ls) (st := st) (h := em G [] (hp S D)) (Q := Q) hd h0
  rw [em_hlen, lgs_rep, em_pushW] at z
  exact z
theorem w_lastL {x : Int} (hd : decode (eB y) pc = .ok (.lastore, 1)) (h0 : 0 ≤ x) (h1 : x.toNat < L.length) : wp y pc ls (.inr (.inr w) :: .inl x :: .inr (.inl (158 + G.length)) :: st) (em G [(104, lgs L)] (hp S D)) Q ↔ wp y (pc + 1) ls st (em G [(104, lgs (L.set x.toNat w))] (hp S D)) Q := by
  have z := w_lasth (ls := ls) (st := st) (h := em G [(104, lgs L)] (hp S D)) (Q := Q) (x := w) hd em_W (by omega) h0 (by rw [lgs_len]; exact h1)
  rw [em_setW, lgs_set] at z
  exact z
/-- how many places the cells have -/
def zs (h : eH) : Nat := (h.map fun c => c.2.length).sum
def z0 : Nat := (((List.range 158).drop 8).map fun k => lnL.getD k 0).sum
theorem zs_app {a b : eH} : zs (a ++ b) = zs a + zs b := by
  unfold zs
  rw [List.map_append, List.sum_append]
theorem zs_sc {h : eH} {k : Nat} : zs (h.map (sc k)) = zs h := by
  unfold zs
  rw [List.map_map]
  refine congrArg List.sum (List.map_congr_left (fun c _ => ?_))
  exact sc_len
theorem zs_hp : zs ((hp S D).drop 8) = z0 := by
  unfold zs z0 hp
  rw [← List.map_drop, List.map_map]
  refine congrArg List.sum (List.map_congr_left (fun k hk => ?_))
  rw [show (List.range 158).drop 8 = List.range' 8 150 by decide +kernel, List.mem_range'] at hk
  obtain ⟨i, hi, rfl⟩ := hk
  show (ceF S D _).2.length = _
  rw [ce_len, ln_hi (by omega)]
theorem zs_ob {k : Nat} : zs (ob k S D) = z0 := by
  unfold ob
  rw [zs_sc, zs_hp]
theorem z0_le : z0 ≤ 2000 := by decide +kernel
end WORLD84
