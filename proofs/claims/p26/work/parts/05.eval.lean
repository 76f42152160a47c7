/-! the evaluator: a run of bytecode over numbers and numbered cells. Cells 0 to 7: 0 is null, 1 to 6 the static arrays, 7 the script; what is made comes behind -/
abbrev eV : Type := Int ⊕ (Nat ⊕ Int64)
abbrev eC : Type := Nat × List eV
abbrev eH : Type := List eC
abbrev eRes : Type := Option (Option eV × eH)
abbrev eK : Type := Nat → Nat → List eV → List eV → eH → eRes
def w32 (x : Int) : Int := (Int32.ofInt x).toInt
/-- is it of one place (all but longs)? -/
def eC1 (v : eV) : Bool := match v with
  | .inr (.inr _) => false
  | _ => true
def eSm : List eV → Nat
  | [] => 0
  | v :: t => (if eC1 v = true then 1 else 2) + eSm t
/-- the places of a row of arguments -/
def eXp : List eV → List eV
  | [] => []
  | v :: t => if eC1 v = true then v :: eXp t else v :: .inr (.inl 0) :: eXp t
def eLgO (y k : Nat) : Bool := (eLg y).all fun s => s != k && s + 1 != k
def eDv : List (List eV) := vwCl.map fun q => (List.range q.2.2).map fun k => if eRefTy (parseFieldDescriptor (q.2.1 k).2.2.1) then .inr (.inl 0) else .inl 0
def eCmp (c : Jvm.ClassFile.Cond) (x y : Int) : Bool := match c with
  | .eq => decide (x = y)
  | .ne => decide (¬ x = y)
  | .lt => decide (x < y)
  | .ge => decide (y ≤ x)
  | .gt => decide (y < x)
  | .le => decide (x ≤ y)
def eJ (f : eK) (y pc : Nat) (off : Int) (ls st : List eV) (h : eH) : eRes := if 0 ≤ (pc : Int) + off then f y ((pc : Int) + off).toNat ls st h else none
def xAld (f : eK) (y pc k : Nat) (ls st : List eV) (h : eH) : eRes := match ls[k]? with
  | some (.inr (.inl a)) => if a = 0 then none else f y pc ls (.inr (.inl a) :: st) h
  | _ => none
def xIld (f : eK) (y pc k : Nat) (ls st : List eV) (h : eH) : eRes := match ls[k]? with
  | some (.inl x) => f y pc ls (.inl x :: st) h
  | _ => none
def xAst (f : eK) (y pc k : Nat) (ls st : List eV) (h : eH) : eRes := match st with
  | .inr (.inl a) :: st => if a = 0 then none else if k < ls.length ∧ eLgO y k = true then f y pc (ls.set k (.inr (.inl a))) st h else none
  | _ => none
def xIst (f : eK) (y pc k : Nat) (ls st : List eV) (h : eH) : eRes := match st with
  | .inl x :: st => if k < ls.length ∧ eLgO y k = true then f y pc (ls.set k (.inl x)) st h else none
  | _ => none
def xLld (f : eK) (y pc k : Nat) (ls st : List eV) (h : eH) : eRes := match ls[k]? with
  | some (.inr (.inr x)) => if k ∈ eLg y then f y pc ls (.inr (.inr x) :: st) h else none
  | _ => none
def xLst (f : eK) (y pc k : Nat) (ls st : List eV) (h : eH) : eRes := match st with
  | .inr (.inr x) :: st => if k + 1 < ls.length ∧ (eLg y).all (fun s => s + 1 != k) = true then f y pc ((ls.set k (.inr (.inr x))).set (k + 1) (.inr (.inl 0))) st h else none
  | _ => none
def xLbin (f : eK) (y pc : Nat) (op : Int64 → Int64 → Int64) (ls st : List eV) (h : eH) : eRes := match st with
  | .inr (.inr b) :: .inr (.inr a) :: st => f y pc ls (.inr (.inr (op a b)) :: st) h
  | _ => none
def xLshr (f : eK) (y pc : Nat) (ls st : List eV) (h : eH) : eRes := match st with
  | .inl b :: .inr (.inr a) :: st => f y pc ls (.inr (.inr (a >>> ((Int32.ofInt b).toInt64 &&& 63))) :: st) h
  | _ => none
def xLcmp (f : eK) (y pc : Nat) (ls st : List eV) (h : eH) : eRes := match st with
  | .inr (.inr b) :: .inr (.inr a) :: st => f y pc ls (.inl (lg_cmp a b).toInt :: st) h
  | _ => none
def xI2l (f : eK) (y pc : Nat) (ls st : List eV) (h : eH) : eRes := match st with
  | .inl a :: st => f y pc ls (.inr (.inr (Int32.ofInt a).toInt64) :: st) h
  | _ => none
def xL2i (f : eK) (y pc : Nat) (ls st : List eV) (h : eH) : eRes := match st with
  | .inr (.inr a) :: st => f y pc ls (.inl a.toInt32.toInt :: st) h
  | _ => none
def xLald (f : eK) (y pc : Nat) (ls st : List eV) (h : eH) : eRes := match st with
  | .inl i :: .inr (.inl a) :: st => match h[a]? with
    | some c => if c.1 = 104 ∧ 0 ≤ i ∧ 8 ≤ a then (match c.2[i.toNat]? with
      | some (.inr (.inr x)) => f y pc ls (.inr (.inr x) :: st) h
      | _ => none) else none
    | none => none
  | _ => none
def xLast (f : eK) (y pc : Nat) (ls st : List eV) (h : eH) : eRes := match st with
  | .inr (.inr x) :: .inl i :: .inr (.inl a) :: st => match h[a]? with
    | some c => if c.1 = 104 ∧ 0 ≤ i ∧ i.toNat < c.2.length ∧ 8 ≤ a then f y pc ls st (h.set a (c.1, c.2.set i.toNat (.inr (.inr x)))) else none
    | none => none
  | _ => none
def xPush (f : eK) (y pc : Nat) (v : eV) (ls st : List eV) (h : eH) : eRes := f y pc ls (v :: st) h
def xBin (f : eK) (y pc : Nat) (op : Int → Int → Int) (ls st : List eV) (h : eH) : eRes := match st with
  | .inl b :: .inl a :: st => f y pc ls (.inl (op a b) :: st) h
  | _ => none
def xBin0 (f : eK) (y pc : Nat) (op : Int → Int → Int) (ls st : List eV) (h : eH) : eRes := match st with
  | .inl b :: .inl a :: st => if b = 0 then none else f y pc ls (.inl (op a b) :: st) h
  | _ => none
def xIf (f : eK) (y pc : Nat) (c : Jvm.ClassFile.Cond) (off : Int) (ls st : List eV) (h : eH) : eRes := match st with
  | .inl a :: st => if 0 ≤ (pc : Int) + off then (if eCmp c a 0 = true then f y ((pc : Int) + off).toNat ls st h else f y (pc + 3) ls st h) else none
  | _ => none
def xIcmp (f : eK) (y pc : Nat) (c : Jvm.ClassFile.Cond) (off : Int) (ls st : List eV) (h : eH) : eRes := match st with
  | .inl b :: .inl a :: st => if 0 ≤ (pc : Int) + off then (if eCmp c a b = true then f y ((pc : Int) + off).toNat ls st h else f y (pc + 3) ls st h) else none
  | _ => none
def xNul (f : eK) (y pc : Nat) (jump : Bool) (off : Int) (ls st : List eV) (h : eH) : eRes := match st with
  | .inr (.inl a) :: st => if a = 0 then none else if jump then eJ f y pc off ls st h else f y (pc + 3) ls st h
  | _ => none
def eArr (a t : Nat) : Bool := t == 100 || (decide (8 ≤ a) && (t == 101 || t == 102 || t == 103))
def xAlen (f : eK) (y pc : Nat) (ls st : List eV) (h : eH) : eRes := match st with
  | .inr (.inl a) :: st => match h[a]? with
    | some c => if eArr a c.1 = true ∧ a ≠ 0 ∧ c.2.length < 2147483648 then f y pc ls (.inl c.2.length :: st) h else none
    | none => none
  | _ => none
def xIald (f : eK) (y pc t : Nat) (ls st : List eV) (h : eH) : eRes := match st with
  | .inl i :: .inr (.inl a) :: st => match h[a]? with
    | some c => if c.1 = t ∧ 0 ≤ i ∧ a ≠ 0 then (match c.2[i.toNat]? with
      | some (.inl x) => f y pc ls (.inl x :: st) h
      | _ => none) else none
    | none => none
  | _ => none
def xAald (f : eK) (y pc : Nat) (ls st : List eV) (h : eH) : eRes := match st with
  | .inl i :: .inr (.inl a) :: st => match h[a]? with
    | some c => if (c.1 = 102 ∨ c.1 = 103) ∧ 0 ≤ i ∧ 8 ≤ a then (match c.2[i.toNat]? with
      | some (.inr (.inl x)) => f y pc ls (.inr (.inl x) :: st) h
      | _ => none) else none
    | none => none
  | _ => none
def xIastore (f : eK) (y pc t : Nat) (ls st : List eV) (h : eH) : eRes := match st with
  | .inl x :: .inl i :: .inr (.inl a) :: st => match h[a]? with
    | some c => if c.1 = t ∧ 0 ≤ i ∧ i.toNat < c.2.length ∧ 8 ≤ a ∧ (t = 101 → 0 ≤ x ∧ x < 65536) then f y pc ls st (h.set a (c.1, c.2.set i.toNat (.inl x))) else none
    | none => none
  | _ => none
def xAastore (f : eK) (y pc : Nat) (ls st : List eV) (h : eH) : eRes := match st with
  | .inr (.inl x) :: .inl i :: .inr (.inl a) :: st => match h[a]?, h[x]? with
    | some c, some d => if (c.1 = 102 ∧ d.1 = 3 ∨ c.1 = 103 ∧ d.1 = 0) ∧ 0 ≤ i ∧ i.toNat < c.2.length ∧ 8 ≤ a ∧ 8 ≤ x then f y pc ls st (h.set a (c.1, c.2.set i.toNat (.inr (.inl x)))) else none
    | _, _ => none
  | _ => none
def xGet (f : eK) (y pc idx : Nat) (ls st : List eV) (h : eH) : eRes := match st with
  | .inr (.inl a) :: st => match eFk (eO y) idx, h[a]? with
    | some q, some c => if c.1 = q.1 ∧ 8 ≤ a then (match c.2[q.2.1]? with
      | some v => f y (pc + 3) ls (v :: st) h
      | none => none) else none
    | _, _ => none
  | _ => none
def eFit (t : Nat) (v : eV) : Bool := match v with
  | .inl x => t == 0 || (t == 1 && (x == 0 || x == 1))
  | .inr (.inl a) => t == 2 && a != 0
  | .inr (.inr _) => false
def eFin (q : Nat × Nat × Nat) : Bool := match vwCl[q.1]? with
  | some r => (r.2.1 q.2.1).2.2.2
  | none => true
def xPut (f : eK) (y pc idx : Nat) (ls st : List eV) (h : eH) : eRes := match st with
  | v :: .inr (.inl a) :: st => match eFk (eO y) idx, h[a]? with
    | some q, some c => if c.1 = q.1 ∧ 8 ≤ a ∧ q.2.1 < c.2.length ∧ eFit q.2.2 v = true ∧ (eFin q = false ∨ (eI y = true ∧ eG (eO y) = q.1 ∧ eO y < 10)) then f y (pc + 3) ls st (h.set a (c.1, c.2.set q.2.1 v)) else none
    | _, _ => none
  | _ => none
def xNew (f : eK) (y pc idx : Nat) (ls st : List eV) (h : eH) : eRes := match eNk (eO y) idx with
  | some t => if t < 100 then (match eDv[t]? with
    | some l => f y (pc + 3) ls (.inr (.inl h.length) :: st) (h ++ [(t, l)])
    | none => none) else none
  | none => none
def xNewa (f : eK) (y pc t : Nat) (z : eV) (ls st : List eV) (h : eH) : eRes := match st with
  | .inl n :: st => if 0 ≤ n ∧ n < 1000000 then f y pc ls (.inr (.inl h.length) :: st) (h ++ [(t, List.replicate n.toNat z)]) else none
  | _ => none
def xRow (l1 l2 : List eV) (sp dp n : Nat) : List eV := (List.range l2.length).map fun k => if dp ≤ k ∧ k < dp + n then l1.getD (sp + (k - dp)) (.inl 0) else l2.getD k (.inl 0)
def xCopy (f : eK) (y pc : Nat) (ls st : List eV) (h : eH) : eRes := match st with
  | .inl n :: .inl dp :: .inr (.inl d) :: .inl sp :: .inr (.inl s) :: st => match h[s]?, h[d]? with
    | some cs, some cd => if cs.1 = 100 ∧ cd.1 = 100 ∧ s ≠ 0 ∧ 8 ≤ d ∧ 0 ≤ sp ∧ 0 ≤ dp ∧ 0 ≤ n ∧ sp.toNat + n.toNat ≤ cs.2.length ∧ dp.toNat + n.toNat ≤ cd.2.length ∧ eSm st ≤ 8 ∧ 1 ≤ eF y ∧ 26 ≤ eL y then
        f y (pc + 3) ls st (h.set d (100, xRow cs.2 cd.2 sp.toNat dp.toNat n.toNat)) else none
    | _, _ => none
  | _ => none
def eLoc (y : Nat) (vs : List eV) : List eV := eXp vs ++ List.replicate (eN y - (eXp vs).length) (.inr (.inl 0))
def eRoom (y y2 : Nat) : Bool := decide (eF y2 + 1 ≤ eF y) && decide (8 + (eN y2 + 11) + eL y2 ≤ eL y)
def xRun (f : eK) (y pc y2 : Nat) (vs ls st : List eV) (h : eH) : eRes := if eRoom y y2 = true ∧ (eXp vs).length ≤ eN y2 ∧ eSm st ≤ 8 then (match f y2 0 (eLoc y2 vs) [] h with
  | some r => f y (pc + 3) ls (r.1.toList ++ st) r.2
  | none => none) else none
def xCall (f : eK) (k0 : Nat) (y pc idx : Nat) (ls st : List eV) (h : eH) : eRes := match eCk (eO y) idx with
  | some q => if k0 = 0 then (if (q.1 = 0 ∨ q.1 = 3) ∧ eA q.2 ≤ st.length then xRun f y pc q.2 (st.take (eA q.2)).reverse ls (st.drop (eA q.2)) h else if q.1 = 5 then xCopy f y pc ls st h else none)
    else if k0 = 1 then (if q.1 = 1 ∧ eA q.2 ≤ st.length then (match st.drop (eA q.2) with
      | .inr (.inl b) :: rest => (match h[b]? with
        | some c => if c.1 = eG (eO q.2) ∧ 8 ≤ b then xRun f y pc q.2 (.inr (.inl b) :: (st.take (eA q.2)).reverse) ls rest h else none
        | none => none)
      | _ => none) else none)
    else (if q.1 = 2 ∧ eA q.2 ≤ st.length then (match st.drop (eA q.2) with
      | .inr (.inl b) :: rest => if 8 ≤ b then xRun f y pc q.2 (.inr (.inl b) :: (st.take (eA q.2)).reverse) ls rest h else none
      | _ => none) else if q.1 = 4 then (match st with
      | .inr (.inl b) :: rest => if 8 ≤ b ∧ eSm rest ≤ 8 ∧ 1 ≤ eF y ∧ 20 ≤ eL y then f y (pc + 3) ls rest h else none
      | _ => none) else none)
  | none => none
def eRetI (y : Nat) (x : Int) : Bool := decide (eT y = some .int) || (decide (eT y = some .boolean) && (x == 0 || x == 1))
def eRetR (y : Nat) : Bool := match eT y with
  | some (.object _) => true
  | _ => false
def exI (f : eK) (y pc : Nat) (i : Instr) (len : Nat) (ls st : List eV) (h : eH) : eRes := match i with
  | .aload k => if len = 2 then xAld f y (pc + 2) k ls st h else none
  | .aload_n k => if len = 1 then xAld f y (pc + 1) k ls st h else none
  | .iload k => if len = 2 then xIld f y (pc + 2) k ls st h else none
  | .iload_n k => if len = 1 then xIld f y (pc + 1) k ls st h else none
  | .astore k => if len = 2 then xAst f y (pc + 2) k ls st h else none
  | .astore_n k => if len = 1 then xAst f y (pc + 1) k ls st h else none
  | .istore k => if len = 2 then xIst f y (pc + 2) k ls st h else none
  | .istore_n k => if len = 1 then xIst f y (pc + 1) k ls st h else none
  | .iconst n => if len = 1 ∧ w32 n = n then xPush f y (pc + 1) (.inl n) ls st h else none
  | .bipush n => if len = 2 ∧ (Int8.ofInt n).toInt32 = Int32.ofInt n ∧ w32 n = n then xPush f y (pc + 2) (.inl n) ls st h else none
  | .sipush n => if len = 3 ∧ (Int16.ofInt n).toInt32 = Int32.ofInt n ∧ w32 n = n then xPush f y (pc + 3) (.inl n) ls st h else none
  | .ldc k => if len = 2 then (match eKk (eO y) k with
    | some n => xPush f y (pc + 2) (.inl n) ls st h
    | none => none) else none
  | .iadd => if len = 1 then xBin f y (pc + 1) (fun a b => w32 (a + b)) ls st h else none
  | .isub => if len = 1 then xBin f y (pc + 1) (fun a b => w32 (a - b)) ls st h else none
  | .imul => if len = 1 then xBin f y (pc + 1) (fun a b => w32 (a * b)) ls st h else none
  | .idiv => if len = 1 then xBin0 f y (pc + 1) (fun a b => w32 (a.tdiv b)) ls st h else none
  | .irem => if len = 1 then xBin0 f y (pc + 1) (fun a b => w32 (a.tmod b)) ls st h else none
  | .iand => if len = 1 then xBin f y (pc + 1) (fun a b => (Int32.ofInt a &&& Int32.ofInt b).toInt) ls st h else none
  | .ixor => if len = 1 then xBin f y (pc + 1) (fun a b => (Int32.ofInt a ^^^ Int32.ofInt b).toInt) ls st h else none
  | .i2c => if len = 1 then (match st with
    | .inl a :: st => f y (pc + 1) ls (.inl ((Int32.ofInt a).toUInt32 % 65536).toInt32.toInt :: st) h
    | _ => none) else none
  | .iinc k n => if len = 3 ∧ k < ls.length ∧ eLgO y k = true then (match ls[k]? with
    | some (.inl x) => f y (pc + 3) (ls.set k (.inl (w32 (x + n)))) st h
    | _ => none) else none
  | .dup => if len = 1 then (match st with
    | a :: st => if eC1 a = true then f y (pc + 1) ls (a :: a :: st) h else none
    | _ => none) else none
  | .pop => if len = 1 then (match st with
    | a :: st => if eC1 a = true then f y (pc + 1) ls st h else none
    | _ => none) else none
  | .dup2 => if len = 1 then (match st with
    | a :: b :: st => if eC1 a = true ∧ eC1 b = true then f y (pc + 1) ls (a :: b :: a :: b :: st) h else none
    | _ => none) else none
  | .ifCond c off => if len = 3 then xIf f y pc c off ls st h else none
  | .if_icmp c off => if len = 3 then xIcmp f y pc c off ls st h else none
  | .goto off => if len = 3 then eJ f y pc off ls st h else none
  | .ifnull off => if len = 3 then xNul f y pc false off ls st h else none
  | .ifnonnull off => if len = 3 then xNul f y pc true off ls st h else none
  | .arraylength => if len = 1 then xAlen f y (pc + 1) ls st h else none
  | .iaload => if len = 1 then xIald f y (pc + 1) 100 ls st h else none
  | .caload => if len = 1 then (match st with
    | .inl i :: .inr (.inl a) :: rest => if 8 ≤ a then xIald f y (pc + 1) 101 ls (.inl i :: .inr (.inl a) :: rest) h else none
    | _ => none) else none
  | .aaload => if len = 1 then xAald f y (pc + 1) ls st h else none
  | .iastore => if len = 1 then xIastore f y (pc + 1) 100 ls st h else none
  | .castore => if len = 1 then xIastore f y (pc + 1) 101 ls st h else none
  | .aastore => if len = 1 then xAastore f y (pc + 1) ls st h else none
  | .getfield idx => if len = 3 then xGet f y pc idx ls st h else none
  | .putfield idx => if len = 3 then xPut f y pc idx ls st h else none
  | .getstatic idx => if len = 3 then (match eSk (eO y) idx with
    | some j => f y (pc + 3) ls (.inr (.inl j) :: st) h
    | none => none) else none
  | .new idx => if len = 3 then xNew f y pc idx ls st h else none
  | .newarray t => if len = 2 then (match t with
    | .int => xNewa f y (pc + 2) 100 (.inl 0) ls st h
    | .char => xNewa f y (pc + 2) 101 (.inl 0) ls st h
    | .long => xNewa f y (pc + 2) 104 (.inr (.inr 0)) ls st h
    | _ => none) else none
  | .anewarray idx => if len = 3 then (match eNk (eO y) idx with
    | some t => if t = 3 then xNewa f y (pc + 3) 102 (.inr (.inl 0)) ls st h else if t = 0 then xNewa f y (pc + 3) 103 (.inr (.inl 0)) ls st h else none
    | none => none) else none
  | .invokestatic idx => if len = 3 then xCall f 0 y pc idx ls st h else none
  | .invokevirtual idx => if len = 3 then xCall f 1 y pc idx ls st h else none
  | .invokespecial idx => if len = 3 then xCall f 2 y pc idx ls st h else none
  | .tableswitch dflt lo hi offs => (match st with
    | .inl x :: st => if x < lo ∨ hi < x then eJ f y pc dflt ls st h else (match offs[(x - lo).toNat]? with
      | some off => eJ f y pc off ls st h
      | none => none)
    | _ => none)
  | .lookupswitch dflt ps => if (ps.toList.zip (ps.toList.drop 1)).all (fun (a, next) => a.1 < next.1) = true then (match st with
    | .inl x :: st => eJ f y pc (Op.lookupswitch.offset ps.toList dflt x) ls st h
    | _ => none) else none
  | .ireturn => if len = 1 then (match st with
    | [.inl x] => if eRetI y x = true then some (some (.inl x), h) else none
    | _ => none) else none
  | .areturn => if len = 1 then (match st with
    | [.inr (.inl a)] => if eRetR y = true ∧ a ≠ 0 then some (some (.inr (.inl a)), h) else none
    | _ => none) else none
  | .lconst n => if len = 1 then xPush f y (pc + 1) (.inr (.inr (Int64.ofNat n))) ls st h else none
  | .ldc2_w k => if len = 3 then (match eJk (eO y) k with
    | some n => xPush f y (pc + 3) (.inr (.inr n)) ls st h
    | none => none) else none
  | .lload k => if len = 2 then xLld f y (pc + 2) k ls st h else none
  | .lload_n k => if len = 1 then xLld f y (pc + 1) k ls st h else none
  | .lstore k => if len = 2 then xLst f y (pc + 2) k ls st h else none
  | .lstore_n k => if len = 1 then xLst f y (pc + 1) k ls st h else none
  | .ladd => if len = 1 then xLbin f y (pc + 1) (fun a b => a + b) ls st h else none
  | .lmul => if len = 1 then xLbin f y (pc + 1) (fun a b => a * b) ls st h else none
  | .land => if len = 1 then xLbin f y (pc + 1) (fun a b => a &&& b) ls st h else none
  | .lshr => if len = 1 then xLshr f y (pc + 1) ls st h else none
  | .lcmp => if len = 1 then xLcmp f y (pc + 1) ls st h else none
  | .i2l => if len = 1 then xI2l f y (pc + 1) ls st h else none
  | .l2i => if len = 1 then xL2i f y (pc + 1) ls st h else none
  | .ishr => if len = 1 then xBin f y (pc + 1) (fun a b => (Int32.ofInt a >>> (Int32.ofInt b &&& 31)).toInt) ls st h else none
  | .laload => if len = 1 then xLald f y (pc + 1) ls st h else none
  | .lastore => if len = 1 then xLast f y (pc + 1) ls st h else none
  | .lreturn => if len = 1 then (match st with
    | [.inr (.inr x)] => if eT y = some .long then some (some (.inr (.inr x)), h) else none
    | _ => none) else none
  | .return_ => if len = 1 ∧ eT y = none ∧ st = [] then some (none, h) else none
  | _ => none
def ex : Nat → eK
  | 0 => fun _ _ _ _ _ => none
  | n + 1 => fun y pc ls st h => match decode (eB y) pc with
    | .ok (i, len) => exI (ex n) y pc i len ls st h
    | _ => none
