/-! THE MADE CELLS once the two objects are made: which cell is what (tg), how many places it has (ln), which of them are references (ro: the offset to the cell that it names); all else are numbers, D k j -/
def tgB : List Nat := [0, 100, 100, 6, 102, 3, 3, 3, 3, 3, 3, 3, 4, 100, 100, 100, 1, 100, 100, 100]
def tgL : List Nat := [999, 100, 100, 100, 100, 100, 100, 100, 7] ++ tgB ++ tgB ++ tgB ++ [3, 2, 103] ++ tgB ++ tgB ++ tgB ++ tgB ++ [5, 101, 4, 100, 100, 100]
def tg (k : Nat) : Nat := tgL.getD k 999
def lnB : List Nat := [13, 4, 3, 6, 6, 6, 6, 6, 6, 6, 6, 6, 4, 10, 10, 10, 5, 10, 10, 10]
def lnL : List Nat := [0, 4, 3, 3, 3, 4, 4, 0, 8] ++ lnB ++ lnB ++ lnB ++ [6, 3, 4] ++ lnB ++ lnB ++ lnB ++ lnB ++ [7, 60, 4, 10, 10, 10]
def ln (S : List Int) (k : Nat) : Nat := if k = 7 then S.length else lnL.getD k 0
def ro (t j : Nat) : Option Nat := match t with
  | 0 => [some 1, some 2, some 3, some 12, some 16].getD j none
  | 1 => [some 1, some 2, some 3].getD j none
  | 2 => [some 1].getD j none
  | 4 => [some 1, some 2, some 3].getD j none
  | 5 => [some 1].getD j none
  | 6 => [some 1, some 8].getD j none
  | 7 => [some 1, some 21, some 41, some 61, some 62, some 144, some 146].getD j none
  | 102 => some (1 + j)
  | 103 => some (1 + 20 * j)
  | _ => none
abbrev eD : Type := Nat → Nat → Int
def stv (S : List Int) (k j : Nat) : Int := if k = 7 then S.getD j 0 else (eSv.getD (k - 1) []).getD j 0
def rd (S : List Int) (D : eD) (k j : Nat) : Int := if k < 8 then stv S k j else D k j
def slF (S : List Int) (D : eD) (k j : Nat) : eV := match ro (tg k) j with
  | some o => .inr (.inl (k + o))
  | none => .inl (rd S D k j)
def ceF (S : List Int) (D : eD) (k : Nat) : eC := (tg k, (List.range (ln S k)).map (slF S D k))
def hp (S : List Int) (D : eD) : eH := (List.range 158).map (ceF S D)
def up (D : eD) (k j : Nat) (v : Int) : eD := fun k' j' => if k' = k ∧ j' = j then v else D k' j'
theorem hp_get {S : List Int} {D : eD} {k : Nat} (h : k < 158) : (hp S D)[k]? = some (ceF S D k) := by
  unfold hp
  rw [List.getElem?_map, List.getElem?_range h]
  rfl
theorem hp_len {S : List Int} {D : eD} : (hp S D).length = 158 := by simp [hp]
theorem ce_get {S : List Int} {D : eD} {k j : Nat} (h : j < ln S k) : (ceF S D k).2[j]? = some (slF S D k j) := by
  unfold ceF
  rw [List.getElem?_map, List.getElem?_range h]
  rfl
theorem ce_len {S : List Int} {D : eD} {k : Nat} : (ceF S D k).2.length = ln S k := by simp [ceF]
theorem tg_lt {k : Nat} (h : tg k ≠ 999) : k < 158 := by
  by_cases q : k < 158
  · exact q
  · exfalso
    apply h
    unfold tg
    rw [List.getD_eq_getElem?_getD, List.getElem?_eq_none (by rw [show tgL.length = 158 by decide +kernel]; omega)]
    rfl
theorem tg_lo : ∀ k, k < 8 → tg k = 100 ∨ tg k = 999 := by decide
theorem tg_hi {k : Nat} (h : tg k ≠ 999) (h2 : tg k ≠ 100) : 8 ≤ k := by
  rcases Nat.lt_or_ge k 8 with q | q
  · rcases tg_lo k q with z | z
    · exact absurd z h2
    · exact absurd z h
  · exact q
/-- the heap says no more of D than its numbers -/
def isN (S : List Int) (k j : Nat) : Prop := 8 ≤ k ∧ k < 158 ∧ j < ln S k ∧ ro (tg k) j = none
theorem hp_ext {S : List Int} {D D' : eD} (h : ∀ k j, isN S k j → D k j = D' k j) : hp S D = hp S D' := by
  unfold hp
  apply List.map_congr_left
  intro k hk
  rw [List.mem_range] at hk
  unfold ceF
  congr 1
  apply List.map_congr_left
  intro j hj
  rw [List.mem_range] at hj
  unfold slF
  cases hr : ro (tg k) j with
  | some o => rfl
  | none =>
    dsimp only
    unfold rd
    split
    · rfl
    · rw [h k j ⟨by omega, hk, hj, hr⟩]
theorem hp_set {S : List Int} {D : eD} {k j : Nat} {v : Int} (h8 : 8 ≤ k) (hr : ro (tg k) j = none) : (hp S D).set k (tg k, (ceF S D k).2.set j (.inl v)) = hp S (up D k j v) := by
  apply List.ext_getElem?
  intro i
  by_cases hi : i < 158
  · by_cases hik : i = k
    · subst hik
      rw [List.getElem?_set_self (by rw [hp_len]; exact hi), hp_get hi]
      congr 1
      unfold ceF
      congr 1
      apply List.ext_getElem?
      intro q
      rw [List.getElem?_map]
      by_cases hq : q < ln S i
      · rw [List.getElem?_range hq]
        by_cases hqj : q = j
        · subst hqj
          rw [List.getElem?_set_self (by simpa using hq)]
          simp [slF, hr, rd, up, show ¬ i < 8 by omega]
        · rw [List.getElem?_set_ne (fun z => hqj z.symm), List.getElem?_map, List.getElem?_range hq]
          simp [slF, rd, up, hqj]
      · rw [List.getElem?_eq_none (by simp; omega), List.getElem?_eq_none (by simp; omega)]
        rfl
    · rw [List.getElem?_set_ne (fun z => hik z.symm), hp_get hi, hp_get hi]
      congr 1
      unfold ceF
      congr 1
      apply List.map_congr_left
      intro q _
      simp [slF, rd, up, hik]
  · rw [List.getElem?_eq_none (by rw [List.length_set, hp_len]; omega), List.getElem?_eq_none (by rw [hp_len]; omega)]
/-! the rules, an instruction each -/
section WRULES
variable {y pc : Nat} {ls st : List eV} {h : eH} {Q : Option eV → eH → Prop} {S : List Int} {D : eD}
theorem w_if {c : Jvm.ClassFile.Cond} {off : Int} {tgt : Nat} {x : Int} (hd : decode (eB y) pc = .ok (.ifCond c off, 3)) (ht : (pc : Int) + off = (tgt : Int)) : wp y pc ls (.inl x :: st) h Q ↔ if eCmp c x 0 = true then wp y tgt ls st h Q else wp y (pc + 3) ls st h Q := by
  have h0 : (0 : Int) ≤ (pc : Int) + off := by omega
  have h1 : ((pc : Int) + off).toNat = tgt := by omega
  by_cases hc : eCmp c x 0 = true
  · rw [if_pos hc]
    exact wp_step hd (fun f => by simp only [exI, xIf, if_pos h0, if_pos hc, h1, if_true])
  · rw [if_neg hc]
    exact wp_step hd (fun f => by simp only [exI, xIf, if_pos h0, if_neg hc, if_true])
theorem w_icmp {c : Jvm.ClassFile.Cond} {off : Int} {tgt : Nat} {x z : Int} (hd : decode (eB y) pc = .ok (.if_icmp c off, 3)) (ht : (pc : Int) + off = (tgt : Int)) : wp y pc ls (.inl z :: .inl x :: st) h Q ↔ if eCmp c x z = true then wp y tgt ls st h Q else wp y (pc + 3) ls st h Q := by
  have h0 : (0 : Int) ≤ (pc : Int) + off := by omega
  have h1 : ((pc : Int) + off).toNat = tgt := by omega
  by_cases hc : eCmp c x z = true
  · rw [if_pos hc]
    exact wp_step hd (fun f => by simp only [exI, xIcmp, if_pos h0, if_pos hc, h1, if_true])
  · rw [if_neg hc]
    exact wp_step hd (fun f => by simp only [exI, xIcmp, if_pos h0, if_neg hc, if_true])
theorem ite_swap {P : Prop} [Decidable P] {A B : Prop} : (if ¬ P then A else B) ↔ if P then B else A := by
  by_cases h : P <;> simp [h]
theorem w_eq0 {off : Int} {tgt : Nat} {x : Int} (hd : decode (eB y) pc = .ok (.ifCond .eq off, 3)) (ht : (pc : Int) + off = (tgt : Int)) : wp y pc ls (.inl x :: st) h Q ↔ if x = 0 then wp y tgt ls st h Q else wp y (pc + 3) ls st h Q := by
  simpa only [eCmp, decide_eq_true_eq] using w_if (ls := ls) (st := st) (h := h) (Q := Q) (x := x) hd ht
theorem w_ne0 {off : Int} {tgt : Nat} {x : Int} (hd : decode (eB y) pc = .ok (.ifCond .ne off, 3)) (ht : (pc : Int) + off = (tgt : Int)) : wp y pc ls (.inl x :: st) h Q ↔ if x = 0 then wp y (pc + 3) ls st h Q else wp y tgt ls st h Q := by
  rw [w_if (ls := ls) (st := st) (h := h) (Q := Q) (x := x) hd ht]
  by_cases hx : x = 0 <;> simp [eCmp, hx]
theorem w_lt0 {off : Int} {tgt : Nat} {x : Int} (hd : decode (eB y) pc = .ok (.ifCond .lt off, 3)) (ht : (pc : Int) + off = (tgt : Int)) : wp y pc ls (.inl x :: st) h Q ↔ if x < 0 then wp y tgt ls st h Q else wp y (pc + 3) ls st h Q := by
  simpa only [eCmp, decide_eq_true_eq] using w_if (ls := ls) (st := st) (h := h) (Q := Q) (x := x) hd ht
theorem w_ge0 {off : Int} {tgt : Nat} {x : Int} (hd : decode (eB y) pc = .ok (.ifCond .ge off, 3)) (ht : (pc : Int) + off = (tgt : Int)) : wp y pc ls (.inl x :: st) h Q ↔ if x < 0 then wp y (pc + 3) ls st h Q else wp y tgt ls st h Q := by
  rw [w_if (ls := ls) (st := st) (h := h) (Q := Q) (x := x) hd ht]
  by_cases hx : x < 0
  · simp [eCmp, hx, Int.not_le.mpr hx]
  · simp [eCmp, hx, Int.not_lt.mp hx]
theorem w_gt0 {off : Int} {tgt : Nat} {x : Int} (hd : decode (eB y) pc = .ok (.ifCond .gt off, 3)) (ht : (pc : Int) + off = (tgt : Int)) : wp y pc ls (.inl x :: st) h Q ↔ if 0 < x then wp y tgt ls st h Q else wp y (pc + 3) ls st h Q := by
  simpa only [eCmp, decide_eq_true_eq] using w_if (ls := ls) (st := st) (h := h) (Q := Q) (x := x) hd ht
theorem w_le0 {off : Int} {tgt : Nat} {x : Int} (hd : decode (eB y) pc = .ok (.ifCond .le off, 3)) (ht : (pc : Int) + off = (tgt : Int)) : wp y pc ls (.inl x :: st) h Q ↔ if 0 < x then wp y (pc + 3) ls st h Q else wp y tgt ls st h Q := by
  rw [w_if (ls := ls) (st := st) (h := h) (Q := Q) (x := x) hd ht]
  by_cases hx : 0 < x
  · simp [eCmp, hx, Int.not_le.mpr hx]
  · simp [eCmp, hx, Int.not_lt.mp hx]
theorem w_ceq {off : Int} {tgt : Nat} {x z : Int} (hd : decode (eB y) pc = .ok (.if_icmp .eq off, 3)) (ht : (pc : Int) + off = (tgt : Int)) : wp y pc ls (.inl z :: .inl x :: st) h Q ↔ if x = z then wp y tgt ls st h Q else wp y (pc + 3) ls st h Q := by
  simpa only [eCmp, decide_eq_true_eq] using w_icmp (ls := ls) (st := st) (h := h) (Q := Q) (x := x) (z := z) hd ht
theorem w_cne {off : Int} {tgt : Nat} {x z : Int} (hd : decode (eB y) pc = .ok (.if_icmp .ne off, 3)) (ht : (pc : Int) + off = (tgt : Int)) : wp y pc ls (.inl z :: .inl x :: st) h Q ↔ if x = z then wp y (pc + 3) ls st h Q else wp y tgt ls st h Q := by
  rw [w_icmp (ls := ls) (st := st) (h := h) (Q := Q) (x := x) (z := z) hd ht]
  by_cases hx : x = z <;> simp [eCmp, hx]
theorem w_clt {off : Int} {tgt : Nat} {x z : Int} (hd : decode (eB y) pc = .ok (.if_icmp .lt off, 3)) (ht : (pc : Int) + off = (tgt : Int)) : wp y pc ls (.inl z :: .inl x :: st) h Q ↔ if x < z then wp y tgt ls st h Q else wp y (pc + 3) ls st h Q := by
  simpa only [eCmp, decide_eq_true_eq] using w_icmp (ls := ls) (st := st) (h := h) (Q := Q) (x := x) (z := z) hd ht
theorem w_cge {off : Int} {tgt : Nat} {x z : Int} (hd : decode (eB y) pc = .ok (.if_icmp .ge off, 3)) (ht : (pc : Int) + off = (tgt : Int)) : wp y pc ls (.inl z :: .inl x :: st) h Q ↔ if x < z then wp y (pc + 3) ls st h Q else wp y tgt ls st h Q := by
  rw [w_icmp (ls := ls) (st := st) (h := h) (Q := Q) (x := x) (z := z) hd ht]
  by_cases hx : x < z
  · simp [eCmp, hx, Int.not_le.mpr hx]
  · simp [eCmp, hx, Int.not_lt.mp hx]
theorem w_cgt {off : Int} {tgt : Nat} {x z : Int} (hd : decode (eB y) pc = .ok (.if_icmp .gt off, 3)) (ht : (pc : Int) + off = (tgt : Int)) : wp y pc ls (.inl z :: .inl x :: st) h Q ↔ if z < x then wp y tgt ls st h Q else wp y (pc + 3) ls st h Q := by
  simpa only [eCmp, decide_eq_true_eq] using w_icmp (ls := ls) (st := st) (h := h) (Q := Q) (x := x) (z := z) hd ht
theorem w_cle {off : Int} {tgt : Nat} {x z : Int} (hd : decode (eB y) pc = .ok (.if_icmp .le off, 3)) (ht : (pc : Int) + off = (tgt : Int)) : wp y pc ls (.inl z :: .inl x :: st) h Q ↔ if z < x then wp y (pc + 3) ls st h Q else wp y tgt ls st h Q := by
  rw [w_icmp (ls := ls) (st := st) (h := h) (Q := Q) (x := x) (z := z) hd ht]
  by_cases hx : z < x
  · simp [eCmp, hx, Int.not_le.mpr hx]
  · simp [eCmp, hx, Int.not_lt.mp hx]
theorem w_goto {off : Int} {tgt : Nat} (hd : decode (eB y) pc = .ok (.goto off, 3)) (ht : (pc : Int) + off = (tgt : Int)) : wp y pc ls st h Q ↔ wp y tgt ls st h Q :=
  wp_step hd (fun f => by
    have h0 : (0 : Int) ≤ (pc : Int) + off := by omega
    have h1 : ((pc : Int) + off).toNat = tgt := by omega
    simp only [exI, eJ, if_pos h0, h1, if_true])
theorem w_nnull {off : Int} {tgt a : Nat} (hd : decode (eB y) pc = .ok (.ifnonnull off, 3)) (ht : (pc : Int) + off = (tgt : Int)) (h0 : a ≠ 0) : wp y pc ls (.inr (.inl a) :: st) h Q ↔ wp y tgt ls st h Q :=
  wp_step hd (fun f => by
    have h2 : (0 : Int) ≤ (pc : Int) + off := by omega
    have h1 : ((pc : Int) + off).toNat = tgt := by omega
    simp only [exI, xNul, eJ, if_pos h2, h1, if_true, h0, if_false])
theorem w_null {off : Int} {a : Nat} (hd : decode (eB y) pc = .ok (.ifnull off, 3)) (h0 : a ≠ 0) : wp y pc ls (.inr (.inl a) :: st) h Q ↔ wp y (pc + 3) ls st h Q :=
  wp_step hd (fun f => by simp only [exI, xNul, if_true, h0, if_false, Bool.false_eq_true])
theorem w_const1 {n : Int} (hd : decode (eB y) pc = .ok (.iconst n, 1)) (hw : w32 n = n) : wp y pc ls st h Q ↔ wp y (pc + 1) ls (.inl n :: st) h Q := wp_step hd (fun f => by simp [exI, xPush, hw])
theorem w_const2 {n : Int} (hd : decode (eB y) pc = .ok (.bipush n, 2)) (hw : w32 n = n) (h8 : (Int8.ofInt n).toInt32 = Int32.ofInt n) : wp y pc ls st h Q ↔ wp y (pc + 2) ls (.inl n :: st) h Q := wp_step hd (fun f => by simp [exI, xPush, hw, h8])
theorem w_const3 {n : Int} (hd : decode (eB y) pc = .ok (.sipush n, 3)) (hw : w32 n = n) (h8 : (Int16.ofInt n).toInt32 = Int32.ofInt n) : wp y pc ls st h Q ↔ wp y (pc + 3) ls (.inl n :: st) h Q := wp_step hd (fun f => by simp [exI, xPush, hw, h8])
theorem w_ldc {n : Int} {k : Nat} (hd : decode (eB y) pc = .ok (.ldc k, 2)) (hk : eKk (eO y) k = some n) : wp y pc ls st h Q ↔ wp y (pc + 2) ls (.inl n :: st) h Q := wp_step hd (fun f => by simp [exI, xPush, hk])
theorem w_div {a b : Int} (hd : decode (eB y) pc = .ok (.idiv, 1)) (hb : b ≠ 0) : wp y pc ls (.inl b :: .inl a :: st) h Q ↔ wp y (pc + 1) ls (.inl (w32 (a.tdiv b)) :: st) h Q := wp_step hd (fun f => by simp [exI, xBin0, hb])
theorem w_rem {a b : Int} (hd : decode (eB y) pc = .ok (.irem, 1)) (hb : b ≠ 0) : wp y pc ls (.inl b :: .inl a :: st) h Q ↔ wp y (pc + 1) ls (.inl (w32 (a.tmod b)) :: st) h Q := wp_step hd (fun f => by simp [exI, xBin0, hb])
theorem w_stat {idx j : Nat} (hd : decode (eB y) pc = .ok (.getstatic idx, 3)) (hk : eSk (eO y) idx = some j) : wp y pc ls st h Q ↔ wp y (pc + 3) ls (.inr (.inl j) :: st) h Q := wp_step hd (fun f => by simp [exI, hk])
theorem w_table {dflt lo hi : Int} {offs : Array Int} {len : Nat} {x : Int} (T : Nat → Nat) (hd : decode (eB y) pc = .ok (.tableswitch dflt lo hi offs, len)) (dt : Nat) (ht : (pc : Int) + dflt = (dt : Int)) (hT : ∀ i : Nat, lo + i ≤ hi → ∃ o, offs[i]? = some o ∧ (pc : Int) + o = (T i : Int)) :
    wp y pc ls (.inl x :: st) h Q ↔ if x < lo ∨ hi < x then wp y dt ls st h Q else wp y (T (x - lo).toNat) ls st h Q := by
  have h0 : (0 : Int) ≤ (pc : Int) + dflt := by omega
  have h1 : ((pc : Int) + dflt).toNat = dt := by omega
  by_cases hc : x < lo ∨ hi < x
  · rw [if_pos hc]
    exact wp_step hd (fun f => by simp only [exI, eJ, if_pos hc, if_pos h0, h1])
  · rw [if_neg hc]
    obtain ⟨o, ho, he⟩ := hT (x - lo).toNat (by omega)
    have h2 : (0 : Int) ≤ (pc : Int) + o := by omega
    have h3 : ((pc : Int) + o).toNat = T (x - lo).toNat := by omega
    exact wp_step hd (fun f => by simp only [exI, eJ, if_neg hc, ho, if_pos h2, h3])
theorem w_lookup {dflt : Int} {ps : Array (Int × Int)} {len tgt : Nat} {x : Int} (hd : decode (eB y) pc = .ok (.lookupswitch dflt ps, len)) (hp : (ps.toList.zip (ps.toList.drop 1)).all (fun (a, next) => a.1 < next.1) = true) (ht : (pc : Int) + Op.lookupswitch.offset ps.toList dflt x = (tgt : Int)) :
    wp y pc ls (.inl x :: st) h Q ↔ wp y tgt ls st h Q := by
  have h2 : (0 : Int) ≤ (pc : Int) + Op.lookupswitch.offset ps.toList dflt x := by omega
  have h3 : ((pc : Int) + Op.lookupswitch.offset ps.toList dflt x).toNat = tgt := by omega
  exact wp_step hd (fun f => by simp only [exI, eJ, if_pos hp, if_pos h2, h3])
/-! calls -/
theorem w_callS {idx y2 kd : Nat} {vs : List eV} (hd : decode (eB y) pc = .ok (.invokestatic idx, 3)) (hk : eCk (eO y) idx = some (kd, y2)) (hkd : kd = 0 ∨ kd = 3) (hn : eA y2 = vs.length) (hr : eRoom y y2 = true) (hl : (eXp vs).length ≤ eN y2) (hst : eSm st ≤ 8) :
    wp y pc ls (vs.reverse ++ st) h Q ↔ wp y2 0 (eLoc y2 vs) [] h (kont y (pc + 3) ls st Q) := by
  refine wp_call hd (fun f => ?_) ⟨hr, hl, hst⟩
  have h1 : eA y2 ≤ (vs.reverse ++ st).length := by rw [List.length_append, List.length_reverse]; omega
  have h2 : (vs.reverse ++ st).take (eA y2) = vs.reverse := List.take_left' (by rw [List.length_reverse]; exact hn.symm)
  have h3 : (vs.reverse ++ st).drop (eA y2) = st := List.drop_left' (by rw [List.length_reverse]; exact hn.symm)
  simp only [exI, xCall, hk, if_true]
  rw [if_pos ⟨hkd, h1⟩, h2, h3, List.reverse_reverse]
theorem w_callV {idx y2 b : Nat} {vs : List eV} (hd : decode (eB y) pc = .ok (.invokevirtual idx, 3)) (hk : eCk (eO y) idx = some (1, y2)) (hn : eA y2 = vs.length) (hr : eRoom y y2 = true) (hl : (eXp (.inr (.inl b) :: vs)).length ≤ eN y2) (hst : eSm st ≤ 8) (t : Nat) (ht : eG (eO y2) = t) (ht9 : t < 100) (hb : tg b = t) :
    wp y pc ls (vs.reverse ++ .inr (.inl b) :: st) (hp S D) Q ↔ wp y2 0 (eLoc y2 (.inr (.inl b) :: vs)) [] (hp S D) (kont y (pc + 3) ls st Q) := by
  have b1 : b < 158 := tg_lt (by omega)
  have b8 : 8 ≤ b := tg_hi (by omega) (by omega)
  refine wp_call hd (fun f => ?_) ⟨hr, hl, hst⟩
  have h1 : eA y2 ≤ (vs.reverse ++ .inr (.inl b) :: st).length := by rw [List.length_append, List.length_reverse]; omega
  have h2 : (vs.reverse ++ .inr (.inl b) :: st).take (eA y2) = vs.reverse := List.take_left' (by rw [List.length_reverse]; exact hn.symm)
  have h3 : (vs.reverse ++ .inr (.inl b) :: st).drop (eA y2) = .inr (.inl b) :: st := List.drop_left' (by rw [List.length_reverse]; exact hn.symm)
  simp only [exI, xCall, hk, if_true, Nat.one_ne_zero, if_false]
  rw [if_pos ⟨trivial, h1⟩, h2, h3]
  simp only [hp_get b1]
  rw [if_pos ⟨by rw [ht]; exact hb, b8⟩, List.reverse_reverse]
theorem w_callI {idx y2 b : Nat} {vs : List eV} (hd : decode (eB y) pc = .ok (.invokespecial idx, 3)) (hk : eCk (eO y) idx = some (2, y2)) (hn : eA y2 = vs.length) (hr : eRoom y y2 = true) (hl : (eXp (.inr (.inl b) :: vs)).length ≤ eN y2) (hst : eSm st ≤ 8) (b8 : 8 ≤ b) :
    wp y pc ls (vs.reverse ++ .inr (.inl b) :: st) h Q ↔ wp y2 0 (eLoc y2 (.inr (.inl b) :: vs)) [] h (kont y (pc + 3) ls st Q) := by
  refine wp_call hd (fun f => ?_) ⟨hr, hl, hst⟩
  have h1 : eA y2 ≤ (vs.reverse ++ .inr (.inl b) :: st).length := by rw [List.length_append, List.length_reverse]; omega
  have h2 : (vs.reverse ++ .inr (.inl b) :: st).take (eA y2) = vs.reverse := List.take_left' (by rw [List.length_reverse]; exact hn.symm)
  have h3 : (vs.reverse ++ .inr (.inl b) :: st).drop (eA y2) = .inr (.inl b) :: st := List.drop_left' (by rw [List.length_reverse]; exact hn.symm)
  simp only [exI, xCall, hk, if_true]
  rw [if_neg (by decide), if_neg (by decide), if_pos ⟨trivial, h1⟩, h2, h3]
  simp only [if_pos b8, List.reverse_reverse]
theorem w_callO {idx y2 b : Nat} (hd : decode (eB y) pc = .ok (.invokespecial idx, 3)) (hk : eCk (eO y) idx = some (4, y2)) (hst : eSm st ≤ 8 ∧ 1 ≤ eF y ∧ 20 ≤ eL y) (b8 : 8 ≤ b) : wp y pc ls (.inr (.inl b) :: st) h Q ↔ wp y (pc + 3) ls st h Q := by
  refine wp_step hd (fun f => ?_)
  simp only [exI, xCall, hk, if_true]
  rw [if_neg (by decide), if_neg (by decide), if_neg (by simp), if_pos ⟨b8, hst⟩]
/-! fields and rows of the made cells -/
theorem w_getI {idx a t j c : Nat} (hd : decode (eB y) pc = .ok (.getfield idx, 3)) (hk : eFk (eO y) idx = some (t, j, c)) (ht9 : t < 100) (hr : ro t j = none) (hj : ∀ k, tg k = t → j < ln S k) (ha : tg a = t) : wp y pc ls (.inr (.inl a) :: st) (hp S D) Q ↔ wp y (pc + 3) ls (.inl (D a j) :: st) (hp S D) Q := by
  have b1 : a < 158 := tg_lt (by omega)
  have b8 : 8 ≤ a := tg_hi (by omega) (by omega)
  refine wp_step hd (fun f => ?_)
  simp only [exI, xGet, hk, hp_get b1, if_true]
  rw [if_pos ⟨ha, b8⟩]
  simp only [ce_get (D := D) (hj a ha), slF, ha, hr, rd, if_neg (Nat.not_lt.mpr b8)]
theorem w_getR {idx a t j c o : Nat} (hd : decode (eB y) pc = .ok (.getfield idx, 3)) (hk : eFk (eO y) idx = some (t, j, c)) (ht9 : t < 100) (hr : ro t j = some o) (hj : ∀ k, tg k = t → j < ln S k) (ha : tg a = t) : wp y pc ls (.inr (.inl a) :: st) (hp S D) Q ↔ wp y (pc + 3) ls (.inr (.inl (a + o)) :: st) (hp S D) Q := by
  have b1 : a < 158 := tg_lt (by omega)
  have b8 : 8 ≤ a := tg_hi (by omega) (by omega)
  refine wp_step hd (fun f => ?_)
  simp only [exI, xGet, hk, hp_get b1, if_true]
  rw [if_pos ⟨ha, b8⟩]
  simp only [ce_get (D := D) (hj a ha), slF, ha, hr]
theorem w_put {idx a t j c : Nat} {v : Int} (hd : decode (eB y) pc = .ok (.putfield idx, 3)) (hk : eFk (eO y) idx = some (t, j, c)) (hfin : eFin (t, j, c) = false) (ht9 : t < 100) (hr : ro t j = none) (hj : ∀ k, tg k = t → j < ln S k) (hc : c = 0 ∨ (c = 1 ∧ (v = 0 ∨ v = 1))) (ha : tg a = t) : wp y pc ls (.inl v :: .inr (.inl a) :: st) (hp S D) Q ↔ wp y (pc + 3) ls st (hp S (up D a j v)) Q := by
  have b1 : a < 158 := tg_lt (by omega)
  have b8 : 8 ≤ a := tg_hi (by omega) (by omega)
  refine wp_step hd (fun f => ?_)
  simp only [exI, xPut, hk, hp_get b1, if_true]
  have hfit : eFit c (.inl v) = true := by
    rcases hc with rfl | ⟨rfl, rfl | rfl⟩ <;> rfl
  rw [if_pos ⟨ha, b8, by rw [ce_len]; exact hj a ha, hfit, Or.inl hfin⟩]
  have e := hp_set (S := S) (D := D) (k := a) (j := j) (v := v) b8 (by rw [ha]; exact hr)
  rw [← e]
  rfl
theorem w_len {a : Nat} (hd : decode (eB y) pc = .ok (.arraylength, 1)) (ha : tg a = 100 ∨ tg a = 101 ∨ tg a = 102 ∨ tg a = 103) (hl : ln S a < 2147483648) : wp y pc ls (.inr (.inl a) :: st) (hp S D) Q ↔ wp y (pc + 1) ls (.inl (ln S a) :: st) (hp S D) Q := by
  have b1 : a < 158 := tg_lt (by omega)
  have b0 : a ≠ 0 := by rintro rfl; revert ha; decide
  refine wp_step hd (fun f => ?_)
  simp only [exI, xAlen, hp_get b1, if_true]
  have h1 : eArr a (ceF S D a).1 = true := by
    show eArr a (tg a) = true
    rcases ha with z | z | z | z
    · rw [z]; rfl
    all_goals
      have b8 : 8 ≤ a := tg_hi (by omega) (by omega)
      rw [z]
      simp [eArr, b8]
  rw [if_pos ⟨h1, b0, by rw [ce_len]; exact hl⟩, ce_len]
theorem ro100 (j : Nat) : ro 100 j = none := rfl
theorem ro101 (j : Nat) : ro 101 j = none := rfl
theorem w_iald {a : Nat} {i : Int} (hd : decode (eB y) pc = .ok (.iaload, 1)) (ha : tg a = 100) (h0 : 0 ≤ i) (hi : i < ln S a) : wp y pc ls (.inl i :: .inr (.inl a) :: st) (hp S D) Q ↔ wp y (pc + 1) ls (.inl (rd S D a i.toNat) :: st) (hp S D) Q := by
  have b1 : a < 158 := tg_lt (by omega)
  have b0 : a ≠ 0 := by rintro rfl; revert ha; decide
  refine wp_step hd (fun f => ?_)
  simp only [exI, xIald, hp_get b1, if_true]
  rw [if_pos ⟨ha, h0, b0⟩]
  simp only [ce_get (D := D) (show i.toNat < ln S a by omega), slF, ha, ro100]
theorem w_cald {a : Nat} {i : Int} (hd : decode (eB y) pc = .ok (.caload, 1)) (ha : tg a = 101) (h0 : 0 ≤ i) (hi : i < ln S a) : wp y pc ls (.inl i :: .inr (.inl a) :: st) (hp S D) Q ↔ wp y (pc + 1) ls (.inl (D a i.toNat) :: st) (hp S D) Q := by
  have b1 : a < 158 := tg_lt (by omega)
  have b8 : 8 ≤ a := tg_hi (by omega) (by omega)
  refine wp_step hd (fun f => ?_)
  simp only [exI, if_true, if_pos b8, xIald, hp_get b1]
  rw [if_pos ⟨ha, h0, by omega⟩]
  simp only [ce_get (D := D) (show i.toNat < ln S a by omega), slF, ha, ro101, rd, if_neg (Nat.not_lt.mpr b8)]
theorem w_aald {a : Nat} {i : Int} (hd : decode (eB y) pc = .ok (.aaload, 1)) (ha : tg a = 102 ∨ tg a = 103) (h0 : 0 ≤ i) (hi : i < ln S a) : wp y pc ls (.inl i :: .inr (.inl a) :: st) (hp S D) Q ↔ wp y (pc + 1) ls (.inr (.inl (a + (if tg a = 102 then 1 + i.toNat else 1 + 20 * i.toNat))) :: st) (hp S D) Q := by
  have b1 : a < 158 := tg_lt (by omega)
  have b8 : 8 ≤ a := tg_hi (by omega) (by omega)
  refine wp_step hd (fun f => ?_)
  simp only [exI, xAald, hp_get b1, if_true]
  rw [if_pos ⟨ha, h0, b8⟩]
  rcases ha with z | z <;> simp only [ce_get (D := D) (show i.toNat < ln S a by omega), slF, z, ro] <;> rfl
theorem w_iast {a : Nat} {i v : Int} (hd : decode (eB y) pc = .ok (.iastore, 1)) (ha : tg a = 100) (b8 : 8 ≤ a) (h0 : 0 ≤ i) (hi : i < ln S a) : wp y pc ls (.inl v :: .inl i :: .inr (.inl a) :: st) (hp S D) Q ↔ wp y (pc + 1) ls st (hp S (up D a i.toNat v)) Q := by
  have b1 : a < 158 := tg_lt (by omega)
  refine wp_step hd (fun f => ?_)
  simp only [exI, xIastore, hp_get b1, if_true]
  rw [if_pos ⟨ha, h0, by rw [ce_len]; omega, b8, fun z => by cases z⟩]
  have e := hp_set (S := S) (D := D) (k := a) (j := i.toNat) (v := v) b8 (by rw [ha]; rfl)
  rw [← e]
  rfl
theorem w_cast {a : Nat} {i v : Int} (hd : decode (eB y) pc = .ok (.castore, 1)) (ha : tg a = 101) (h0 : 0 ≤ i) (hi : i < ln S a) (hv : 0 ≤ v ∧ v < 65536) : wp y pc ls (.inl v :: .inl i :: .inr (.inl a) :: st) (hp S D) Q ↔ wp y (pc + 1) ls st (hp S (up D a i.toNat v)) Q := by
  have b1 : a < 158 := tg_lt (by omega)
  have b8 : 8 ≤ a := tg_hi (by omega) (by omega)
  refine wp_step hd (fun f => ?_)
  simp only [exI, xIastore, hp_get b1, if_true]
  rw [if_pos ⟨ha, h0, by rw [ce_len]; omega, b8, fun _ => hv⟩]
  have e := hp_set (S := S) (D := D) (k := a) (j := i.toNat) (v := v) b8 (by rw [ha]; rfl)
  rw [← e]
  rfl
theorem w_callVh {idx y2 b : Nat} {vs : List eV} {c : eC} (hd : decode (eB y) pc = .ok (.invokevirtual idx, 3)) (hk : eCk (eO y) idx = some (1, y2)) (hn : eA y2 = vs.length) (hr : eRoom y y2 = true) (hl : (eXp (.inr (.inl b) :: vs)).length ≤ eN y2) (hst : eSm st ≤ 8) (t : Nat) (ht : eG (eO y2) = t) (hc : h[b]? = some c) (hb : c.1 = t) (b8 : 8 ≤ b) :
    wp y pc ls (vs.reverse ++ .inr (.inl b) :: st) h Q ↔ wp y2 0 (eLoc y2 (.inr (.inl b) :: vs)) [] h (kont y (pc + 3) ls st Q) := by
  refine wp_call hd (fun f => ?_) ⟨hr, hl, hst⟩
  have h1 : eA y2 ≤ (vs.reverse ++ .inr (.inl b) :: st).length := by rw [List.length_append, List.length_reverse]; omega
  have h2 : (vs.reverse ++ .inr (.inl b) :: st).take (eA y2) = vs.reverse := List.take_left' (by rw [List.length_reverse]; exact hn.symm)
  have h3 : (vs.reverse ++ .inr (.inl b) :: st).drop (eA y2) = .inr (.inl b) :: st := List.drop_left' (by rw [List.length_reverse]; exact hn.symm)
  simp only [exI, xCall, hk, if_true, Nat.one_ne_zero, if_false]
  rw [if_pos ⟨trivial, h1⟩, h2, h3]
  simp only [hc]
  rw [if_pos ⟨by rw [ht]; exact hb, b8⟩, List.reverse_reverse]
theorem w_ldc2 {w : Int64} {k : Nat} (hd : decode (eB y) pc = .ok (.ldc2_w k, 3)) (hk : eJk (eO y) k = some w) : wp y pc ls st h Q ↔ wp y (pc + 3) ls (.inr (.inr w) :: st) h Q := wp_step hd (fun f => by simp [exI, xPush, hk])
theorem w_lenh {a : Nat} {l : List eV} (hd : decode (eB y) pc = .ok (.arraylength, 1)) (hc : h[a]? = some (100, l)) (h0 : a ≠ 0) (hl : l.length < 2147483648) : wp y pc ls (.inr (.inl a) :: st) h Q ↔ wp y (pc + 1) ls (.inl l.length :: st) h Q :=
  wp_step hd (fun f => by simp [exI, xAlen, hc, eArr, h0, hl])
theorem w_ialdh {a : Nat} {i x : Int} {l : List eV} (hd : decode (eB y) pc = .ok (.iaload, 1)) (hc : h[a]? = some (100, l)) (a0 : a ≠ 0) (h0 : 0 ≤ i) (hx : l[i.toNat]? = some (.inl x)) : wp y pc ls (.inl i :: .inr (.inl a) :: st) h Q ↔ wp y (pc + 1) ls (.inl x :: st) h Q :=
  wp_step hd (fun f => by simp [exI, xIald, hc, h0, hx, a0])
theorem w_laldh {a : Nat} {i : Int} {x : Int64} {l : List eV} (hd : decode (eB y) pc = .ok (.laload, 1)) (hc : h[a]? = some (104, l)) (h8 : 8 ≤ a) (h0 : 0 ≤ i) (hx : l[i.toNat]? = some (.inr (.inr x))) : wp y pc ls (.inl i :: .inr (.inl a) :: st) h Q ↔ wp y (pc + 1) ls (.inr (.inr x) :: st) h Q :=
  wp_step hd (fun f => by simp [exI, xLald, hc, h0, hx, h8])
theorem w_lasth {a : Nat} {i : Int} {x : Int64} {l : List eV} (hd : decode (eB y) pc = .ok (.lastore, 1)) (hc : h[a]? = some (104, l)) (h8 : 8 ≤ a) (h0 : 0 ≤ i) (hi : i.toNat < l.length) : wp y pc ls (.inr (.inr x) :: .inl i :: .inr (.inl a) :: st) h Q ↔ wp y (pc + 1) ls st (h.set a (104, l.set i.toNat (.inr (.inr x)))) Q :=
  wp_step hd (fun f => by simp [exI, xLast, hc, h0, hi, h8])
theorem w_newl {i : Int} (hd : decode (eB y) pc = .ok (.newarray .long, 2)) (h0 : 0 ≤ i ∧ i < 1000000) : wp y pc ls (.inl i :: st) h Q ↔ wp y (pc + 2) ls (.inr (.inl h.length) :: st) (h ++ [(104, List.replicate i.toNat (.inr (.inr 0)))]) Q :=
  wp_step hd (fun f => by simp [exI, xNewa, h0])
end WRULES
