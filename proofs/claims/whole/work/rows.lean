section
-- ===== PART A: goes FIRST, ahead of the names: the tables' words, and 'selects' of the private methods out of them =====
/-- a private method of a class that the tables say can be made, by its rows of tables_1 -/
def lw_okq (q : MethodName × Nat) : Prop := (q.1.cls ≠ "java/lang/invoke/MethodHandle" ∧ q.1.cls ≠ "java/lang/invoke/VarHandle") ∧ Cond.instantiable q.1.cls q.2 ∈ tables_1 ∧ Cond.privateMethod q.1 ∈ tables_1 ∧ Cond.instanceMethod q.1 ∈ tables_1
theorem lw_p0 : lw_okq (⟨"LampChanger$History", "behindLatest", "()LLampChanger$Beacon;"⟩, 3) := ⟨⟨by decide +kernel, by decide +kernel⟩, List.mem_of_getElem? (i := 209) (by decide +kernel), List.mem_of_getElem? (i := 309) (by decide +kernel), List.mem_of_getElem? (i := 310) (by decide +kernel)⟩
theorem lw_p1 : lw_okq (⟨"LampChanger$PlanText", "beginBoat", "()V"⟩, 7) := ⟨⟨by decide +kernel, by decide +kernel⟩, List.mem_of_getElem? (i := 229) (by decide +kernel), List.mem_of_getElem? (i := 441) (by decide +kernel), List.mem_of_getElem? (i := 442) (by decide +kernel)⟩
theorem lw_p2 : lw_okq (⟨"LampChanger$PlanText", "allows", "(CLLampChanger$Plan;)Z"⟩, 7) := ⟨⟨by decide +kernel, by decide +kernel⟩, List.mem_of_getElem? (i := 229) (by decide +kernel), List.mem_of_getElem? (i := 445) (by decide +kernel), List.mem_of_getElem? (i := 446) (by decide +kernel)⟩
theorem lw_p3 : lw_okq (⟨"LampChanger$PlanText", "allowsInTick", "(C)Z"⟩, 7) := ⟨⟨by decide +kernel, by decide +kernel⟩, List.mem_of_getElem? (i := 229) (by decide +kernel), List.mem_of_getElem? (i := 449) (by decide +kernel), List.mem_of_getElem? (i := 450) (by decide +kernel)⟩
theorem lw_p4 : lw_okq (⟨"LampChanger$PlanText", "allowsAsKind", "(C)Z"⟩, 7) := ⟨⟨by decide +kernel, by decide +kernel⟩, List.mem_of_getElem? (i := 229) (by decide +kernel), List.mem_of_getElem? (i := 454) (by decide +kernel), List.mem_of_getElem? (i := 455) (by decide +kernel)⟩
theorem lw_p5 : lw_okq (⟨"LampChanger$PlanText", "allowsAsLoad", "(CLLampChanger$Plan;)Z"⟩, 7) := ⟨⟨by decide +kernel, by decide +kernel⟩, List.mem_of_getElem? (i := 229) (by decide +kernel), List.mem_of_getElem? (i := 459) (by decide +kernel), List.mem_of_getElem? (i := 460) (by decide +kernel)⟩
theorem lw_p6 : lw_okq (⟨"LampChanger$Beacon", "shine", "()Z"⟩, 13) := ⟨⟨by decide +kernel, by decide +kernel⟩, List.mem_of_getElem? (i := 22) (by decide +kernel), List.mem_of_getElem? (i := 487) (by decide +kernel), List.mem_of_getElem? (i := 488) (by decide +kernel)⟩
theorem lw_p7 : lw_okq (⟨"LampChanger$Beacon", "burn", "(LLampChanger$Lamp;)Z"⟩, 13) := ⟨⟨by decide +kernel, by decide +kernel⟩, List.mem_of_getElem? (i := 22) (by decide +kernel), List.mem_of_getElem? (i := 501) (by decide +kernel), List.mem_of_getElem? (i := 502) (by decide +kernel)⟩
theorem lw_p8 : lw_okq (⟨"LampChanger$Beacon", "noteChange", "(II)V"⟩, 13) := ⟨⟨by decide +kernel, by decide +kernel⟩, List.mem_of_getElem? (i := 22) (by decide +kernel), List.mem_of_getElem? (i := 523) (by decide +kernel), List.mem_of_getElem? (i := 524) (by decide +kernel)⟩
theorem lw_p9 : lw_okq (⟨"LampChanger$Beacon", "turnFor", "(II)V"⟩, 13) := ⟨⟨by decide +kernel, by decide +kernel⟩, List.mem_of_getElem? (i := 22) (by decide +kernel), List.mem_of_getElem? (i := 543) (by decide +kernel), List.mem_of_getElem? (i := 544) (by decide +kernel)⟩
theorem lw_p10 : lw_okq (⟨"LampChanger$Beacon", "rest", "()V"⟩, 13) := ⟨⟨by decide +kernel, by decide +kernel⟩, List.mem_of_getElem? (i := 22) (by decide +kernel), List.mem_of_getElem? (i := 548) (by decide +kernel), List.mem_of_getElem? (i := 549) (by decide +kernel)⟩
theorem lw_p11 : lw_okq (⟨"LampChanger$Beacon", "countNightTick", "(Z)V"⟩, 13) := ⟨⟨by decide +kernel, by decide +kernel⟩, List.mem_of_getElem? (i := 22) (by decide +kernel), List.mem_of_getElem? (i := 553) (by decide +kernel), List.mem_of_getElem? (i := 554) (by decide +kernel)⟩
theorem lw_p12 : lw_okq (⟨"LampChanger$Beacon", "receiveBoat", "()V"⟩, 13) := ⟨⟨by decide +kernel, by decide +kernel⟩, List.mem_of_getElem? (i := 22) (by decide +kernel), List.mem_of_getElem? (i := 560) (by decide +kernel), List.mem_of_getElem? (i := 561) (by decide +kernel)⟩
theorem lw_p13 : lw_okq (⟨"LampChanger$Beacon", "takeOldLampsOut", "()V"⟩, 13) := ⟨⟨by decide +kernel, by decide +kernel⟩, List.mem_of_getElem? (i := 22) (by decide +kernel), List.mem_of_getElem? (i := 567) (by decide +kernel), List.mem_of_getElem? (i := 568) (by decide +kernel)⟩
theorem lw_p14 : lw_okq (⟨"LampChanger$Beacon", "fillEmptySockets", "()I"⟩, 13) := ⟨⟨by decide +kernel, by decide +kernel⟩, List.mem_of_getElem? (i := 22) (by decide +kernel), List.mem_of_getElem? (i := 573) (by decide +kernel), List.mem_of_getElem? (i := 574) (by decide +kernel)⟩
theorem lw_p15 : lw_okq (⟨"LampChanger$Beacon", "lowestKindInStock", "()I"⟩, 13) := ⟨⟨by decide +kernel, by decide +kernel⟩, List.mem_of_getElem? (i := 22) (by decide +kernel), List.mem_of_getElem? (i := 577) (by decide +kernel), List.mem_of_getElem? (i := 578) (by decide +kernel)⟩
def lw_privs_1 : List (MethodName × Nat) := [(⟨"LampChanger$History", "behindLatest", "()LLampChanger$Beacon;"⟩, 3), (⟨"LampChanger$PlanText", "beginBoat", "()V"⟩, 7), (⟨"LampChanger$PlanText", "allows", "(CLLampChanger$Plan;)Z"⟩, 7), (⟨"LampChanger$PlanText", "allowsInTick", "(C)Z"⟩, 7), (⟨"LampChanger$PlanText", "allowsAsKind", "(C)Z"⟩, 7), (⟨"LampChanger$PlanText", "allowsAsLoad", "(CLLampChanger$Plan;)Z"⟩, 7), (⟨"LampChanger$Beacon", "shine", "()Z"⟩, 13), (⟨"LampChanger$Beacon", "burn", "(LLampChanger$Lamp;)Z"⟩, 13), (⟨"LampChanger$Beacon", "noteChange", "(II)V"⟩, 13), (⟨"LampChanger$Beacon", "turnFor", "(II)V"⟩, 13), (⟨"LampChanger$Beacon", "rest", "()V"⟩, 13), (⟨"LampChanger$Beacon", "countNightTick", "(Z)V"⟩, 13), (⟨"LampChanger$Beacon", "receiveBoat", "()V"⟩, 13), (⟨"LampChanger$Beacon", "takeOldLampsOut", "()V"⟩, 13), (⟨"LampChanger$Beacon", "fillEmptySockets", "()I"⟩, 13), (⟨"LampChanger$Beacon", "lowestKindInStock", "()I"⟩, 13)]
theorem lw_r1 : ∀ q ∈ lw_privs_1, lw_okq q := List.forall_mem_cons.mpr ⟨lw_p0, List.forall_mem_cons.mpr ⟨lw_p1, List.forall_mem_cons.mpr ⟨lw_p2, List.forall_mem_cons.mpr ⟨lw_p3, List.forall_mem_cons.mpr ⟨lw_p4, List.forall_mem_cons.mpr ⟨lw_p5, List.forall_mem_cons.mpr ⟨lw_p6, List.forall_mem_cons.mpr ⟨lw_p7, List.forall_mem_cons.mpr ⟨lw_p8, List.forall_mem_cons.mpr ⟨lw_p9, List.forall_mem_cons.mpr ⟨lw_p10, List.forall_mem_cons.mpr ⟨lw_p11, List.forall_mem_cons.mpr ⟨lw_p12, List.forall_mem_cons.mpr ⟨lw_p13, List.forall_mem_cons.mpr ⟨lw_p14, List.forall_mem_cons.mpr ⟨lw_p15, fun _ h => absurd h List.not_mem_nil⟩⟩⟩⟩⟩⟩⟩⟩⟩⟩⟩⟩⟩⟩⟩⟩
theorem lw_p16 : lw_okq (⟨"LampChanger$Wheel", "usableOnesAheadOf", "(I)I"⟩, 6) := ⟨⟨by decide +kernel, by decide +kernel⟩, List.mem_of_getElem? (i := 39) (by decide +kernel), List.mem_of_getElem? (i := 650) (by decide +kernel), List.mem_of_getElem? (i := 651) (by decide +kernel)⟩
theorem lw_p17 : lw_okq (⟨"LampChanger$Plan", "boatsAheadOf", "(I)I"⟩, 4) := ⟨⟨by decide +kernel, by decide +kernel⟩, List.mem_of_getElem? (i := 105) (by decide +kernel), List.mem_of_getElem? (i := 663) (by decide +kernel), List.mem_of_getElem? (i := 664) (by decide +kernel)⟩
theorem lw_p18 : lw_okq (⟨"LampChangerModel", "records", "()V"⟩, 11) := ⟨⟨by decide +kernel, by decide +kernel⟩, List.mem_of_getElem? (i := 700) (by decide +kernel), List.mem_of_getElem? (i := 761) (by decide +kernel), List.mem_of_getElem? (i := 762) (by decide +kernel)⟩
theorem lw_p19 : lw_okq (⟨"LampChangerModel", "isPlanned", "(I)Z"⟩, 11) := ⟨⟨by decide +kernel, by decide +kernel⟩, List.mem_of_getElem? (i := 700) (by decide +kernel), List.mem_of_getElem? (i := 823) (by decide +kernel), List.mem_of_getElem? (i := 824) (by decide +kernel)⟩
theorem lw_p20 : lw_okq (⟨"LampChangerModel", "placeOf", "(I)I"⟩, 11) := ⟨⟨by decide +kernel, by decide +kernel⟩, List.mem_of_getElem? (i := 700) (by decide +kernel), List.mem_of_getElem? (i := 827) (by decide +kernel), List.mem_of_getElem? (i := 828) (by decide +kernel)⟩
theorem lw_p21 : lw_okq (⟨"LampChangerModel", "plans", "(III)V"⟩, 11) := ⟨⟨by decide +kernel, by decide +kernel⟩, List.mem_of_getElem? (i := 700) (by decide +kernel), List.mem_of_getElem? (i := 831) (by decide +kernel), List.mem_of_getElem? (i := 832) (by decide +kernel)⟩
theorem lw_p22 : lw_okq (⟨"LampChangerModel", "isText", "()Z"⟩, 11) := ⟨⟨by decide +kernel, by decide +kernel⟩, List.mem_of_getElem? (i := 700) (by decide +kernel), List.mem_of_getElem? (i := 897) (by decide +kernel), List.mem_of_getElem? (i := 898) (by decide +kernel)⟩
theorem lw_p23 : lw_okq (⟨"LampChangerModel", "readsBoat", "()Z"⟩, 11) := ⟨⟨by decide +kernel, by decide +kernel⟩, List.mem_of_getElem? (i := 700) (by decide +kernel), List.mem_of_getElem? (i := 901) (by decide +kernel), List.mem_of_getElem? (i := 902) (by decide +kernel)⟩
theorem lw_p24 : lw_okq (⟨"LampChangerModel", "number", "()I"⟩, 11) := ⟨⟨by decide +kernel, by decide +kernel⟩, List.mem_of_getElem? (i := 700) (by decide +kernel), List.mem_of_getElem? (i := 905) (by decide +kernel), List.mem_of_getElem? (i := 906) (by decide +kernel)⟩
theorem lw_p25 : lw_okq (⟨"LampChangerModel", "digit", "(CC)I"⟩, 11) := ⟨⟨by decide +kernel, by decide +kernel⟩, List.mem_of_getElem? (i := 700) (by decide +kernel), List.mem_of_getElem? (i := 909) (by decide +kernel), List.mem_of_getElem? (i := 910) (by decide +kernel)⟩
theorem lw_p26 : lw_okq (⟨"LampChangerModel", "sees", "(CC)Z"⟩, 11) := ⟨⟨by decide +kernel, by decide +kernel⟩, List.mem_of_getElem? (i := 700) (by decide +kernel), List.mem_of_getElem? (i := 913) (by decide +kernel), List.mem_of_getElem? (i := 914) (by decide +kernel)⟩
theorem lw_p27 : lw_okq (⟨"LampChangerModel", "takes", "(C)Z"⟩, 11) := ⟨⟨by decide +kernel, by decide +kernel⟩, List.mem_of_getElem? (i := 700) (by decide +kernel), List.mem_of_getElem? (i := 917) (by decide +kernel), List.mem_of_getElem? (i := 918) (by decide +kernel)⟩
theorem lw_p28 : lw_okq (⟨"LampChangerModel", "unlike", "()I"⟩, 11) := ⟨⟨by decide +kernel, by decide +kernel⟩, List.mem_of_getElem? (i := 700) (by decide +kernel), List.mem_of_getElem? (i := 921) (by decide +kernel), List.mem_of_getElem? (i := 922) (by decide +kernel)⟩
theorem lw_p29 : lw_okq (⟨"LampChangerModel", "left", "(I)I"⟩, 11) := ⟨⟨by decide +kernel, by decide +kernel⟩, List.mem_of_getElem? (i := 700) (by decide +kernel), List.mem_of_getElem? (i := 945) (by decide +kernel), List.mem_of_getElem? (i := 946) (by decide +kernel)⟩
theorem lw_p30 : lw_okq (⟨"LampChangerModel", "lamps", "(I)I"⟩, 11) := ⟨⟨by decide +kernel, by decide +kernel⟩, List.mem_of_getElem? (i := 700) (by decide +kernel), List.mem_of_getElem? (i := 961) (by decide +kernel), List.mem_of_getElem? (i := 962) (by decide +kernel)⟩
def lw_privs_2 : List (MethodName × Nat) := [(⟨"LampChanger$Wheel", "usableOnesAheadOf", "(I)I"⟩, 6), (⟨"LampChanger$Plan", "boatsAheadOf", "(I)I"⟩, 4), (⟨"LampChangerModel", "records", "()V"⟩, 11), (⟨"LampChangerModel", "isPlanned", "(I)Z"⟩, 11), (⟨"LampChangerModel", "placeOf", "(I)I"⟩, 11), (⟨"LampChangerModel", "plans", "(III)V"⟩, 11), (⟨"LampChangerModel", "isText", "()Z"⟩, 11), (⟨"LampChangerModel", "readsBoat", "()Z"⟩, 11), (⟨"LampChangerModel", "number", "()I"⟩, 11), (⟨"LampChangerModel", "digit", "(CC)I"⟩, 11), (⟨"LampChangerModel", "sees", "(CC)Z"⟩, 11), (⟨"LampChangerModel", "takes", "(C)Z"⟩, 11), (⟨"LampChangerModel", "unlike", "()I"⟩, 11), (⟨"LampChangerModel", "left", "(I)I"⟩, 11), (⟨"LampChangerModel", "lamps", "(I)I"⟩, 11)]
theorem lw_r2 : ∀ q ∈ lw_privs_2, lw_okq q := List.forall_mem_cons.mpr ⟨lw_p16, List.forall_mem_cons.mpr ⟨lw_p17, List.forall_mem_cons.mpr ⟨lw_p18, List.forall_mem_cons.mpr ⟨lw_p19, List.forall_mem_cons.mpr ⟨lw_p20, List.forall_mem_cons.mpr ⟨lw_p21, List.forall_mem_cons.mpr ⟨lw_p22, List.forall_mem_cons.mpr ⟨lw_p23, List.forall_mem_cons.mpr ⟨lw_p24, List.forall_mem_cons.mpr ⟨lw_p25, List.forall_mem_cons.mpr ⟨lw_p26, List.forall_mem_cons.mpr ⟨lw_p27, List.forall_mem_cons.mpr ⟨lw_p28, List.forall_mem_cons.mpr ⟨lw_p29, List.forall_mem_cons.mpr ⟨lw_p30, fun _ h => absurd h List.not_mem_nil⟩⟩⟩⟩⟩⟩⟩⟩⟩⟩⟩⟩⟩⟩⟩
def lw_privs : List (MethodName × Nat) := lw_privs_1 ++ (lw_privs_2)
def lw_tbl : List Cond := k2_sels lw_privs ++ tables_1
theorem lw_privs_ok : ∀ q ∈ lw_privs, lw_okq q := by
  show ∀ q ∈ lw_privs_1 ++ (lw_privs_2), lw_okq q
  exact List.forall_mem_append.mpr ⟨lw_r1, lw_r2⟩
end
section
def RX0 : String := "LampChanger$Beacon"
def TX0 : u_T := fun k => match k with
  | 0 => ("LampChanger$Beacon", "settings", "[I", true)
  | 1 => ("LampChanger$Beacon", "lampsInStock", "[I", true)
  | 2 => ("LampChanger$Beacon", "wheel", "LLampChanger$Wheel;", true)
  | 3 => ("LampChanger$Beacon", "plan", "LLampChanger$Plan;", true)
  | 4 => ("LampChanger$Beacon", "log", "LLampChanger$EventLog;", true)
  | 5 => ("LampChanger$Beacon", "tick", "I", false)
  | 6 => ("LampChanger$Beacon", "dusk", "I", false)
  | 7 => ("LampChanger$Beacon", "dawn", "I", false)
  | 8 => ("LampChanger$Beacon", "darkTicks", "I", false)
  | 9 => ("LampChanger$Beacon", "longestDarkRun", "I", false)
  | 10 => ("LampChanger$Beacon", "changes", "I", false)
  | 11 => ("LampChanger$Beacon", "boatsThatCame", "I", false)
  | _ => ("LampChanger$Beacon", "darkRun", "I", false)
def tyX0 : Nat → FieldType := fun k => match k with
  | 0 => .array .int
  | 1 => .array .int
  | 2 => .object "LampChanger$Wheel"
  | 3 => .object "LampChanger$Plan"
  | 4 => .object "LampChanger$EventLog"
  | 5 => .int
  | 6 => .int
  | 7 => .int
  | 8 => .int
  | 9 => .int
  | 10 => .int
  | 11 => .int
  | _ => .int
theorem nmX0 : ∀ a, a < 13 → ∀ b, b < 13 → a ≠ b → (TX0 a).2.1 ≠ (TX0 b).2.1 := by decide +kernel
theorem tyX0_ok : ∀ k, k < 13 → parseFieldDescriptor (TX0 k).2.2.1 = some (tyX0 k) := by decide +kernel
abbrev cX0_init : ByteArray := prog_2_method_1_code
def yX0_init : MethodName := ⟨RX0, "<init>", "()V"⟩
abbrev cX0_copyFrom : ByteArray := prog_2_method_2_code
def yX0_copyFrom : MethodName := ⟨RX0, "copyFrom", "(LLampChanger$Beacon;)V"⟩
abbrev cX0_ticksOfNight : ByteArray := prog_2_method_3_code
def yX0_ticksOfNight : MethodName := ⟨RX0, "ticksOfNight", "()I"⟩
abbrev cX0_isNight : ByteArray := prog_2_method_4_code
def yX0_isNight : MethodName := ⟨RX0, "isNight", "()Z"⟩
abbrev cX0_passTick : ByteArray := prog_2_method_5_code
def yX0_passTick : MethodName := ⟨RX0, "passTick", "(Z)Z"⟩
abbrev cX0_shine : ByteArray := prog_2_method_6_code
def yX0_shine : MethodName := ⟨RX0, "shine", "()Z"⟩
abbrev cX0_burn : ByteArray := prog_2_method_7_code
def yX0_burn : MethodName := ⟨RX0, "burn", "(LLampChanger$Lamp;)Z"⟩
abbrev cX0_rest : ByteArray := prog_2_method_8_code
def yX0_rest : MethodName := ⟨RX0, "rest", "()V"⟩
abbrev cX0_turnFor : ByteArray := prog_2_method_9_code
def yX0_turnFor : MethodName := ⟨RX0, "turnFor", "(II)V"⟩
abbrev cX0_noteChange : ByteArray := prog_2_method_10_code
def yX0_noteChange : MethodName := ⟨RX0, "noteChange", "(II)V"⟩
abbrev cX0_countNightTick : ByteArray := prog_2_method_11_code
def yX0_countNightTick : MethodName := ⟨RX0, "countNightTick", "(Z)V"⟩
abbrev cX0_receiveBoat : ByteArray := prog_2_method_12_code
def yX0_receiveBoat : MethodName := ⟨RX0, "receiveBoat", "()V"⟩
abbrev cX0_takeOldLampsOut : ByteArray := prog_2_method_13_code
def yX0_takeOldLampsOut : MethodName := ⟨RX0, "takeOldLampsOut", "()V"⟩
abbrev cX0_fillEmptySockets : ByteArray := prog_2_method_14_code
def yX0_fillEmptySockets : MethodName := ⟨RX0, "fillEmptySockets", "()I"⟩
abbrev cX0_lowestKindInStock : ByteArray := prog_2_method_15_code
def yX0_lowestKindInStock : MethodName := ⟨RX0, "lowestKindInStock", "()I"⟩
def RX1 : String := "LampChanger$EventLog"
def TX1 : u_T := fun k => match k with
  | 0 => ("LampChanger$EventLog", "happenings", "[I", true)
  | 1 => ("LampChanger$EventLog", "numbers", "[I", true)
  | 2 => ("LampChanger$EventLog", "ticks", "[I", true)
  | 3 => ("LampChanger$EventLog", "events", "I", false)
  | _ => ("LampChanger$EventLog", "nextRow", "I", false)
def tyX1 : Nat → FieldType := fun k => match k with
  | 0 => .array .int
  | 1 => .array .int
  | 2 => .array .int
  | 3 => .int
  | _ => .int
theorem nmX1 : ∀ a, a < 5 → ∀ b, b < 5 → a ≠ b → (TX1 a).2.1 ≠ (TX1 b).2.1 := by decide +kernel
theorem tyX1_ok : ∀ k, k < 5 → parseFieldDescriptor (TX1 k).2.2.1 = some (tyX1 k) := by decide +kernel
abbrev cX1_init : ByteArray := prog_3_method_1_code
def yX1_init : MethodName := ⟨RX1, "<init>", "()V"⟩
abbrev cX1_copyFrom : ByteArray := prog_3_method_2_code
def yX1_copyFrom : MethodName := ⟨RX1, "copyFrom", "(LLampChanger$EventLog;)V"⟩
abbrev cX1_note : ByteArray := prog_3_method_3_code
def yX1_note : MethodName := ⟨RX1, "note", "(III)V"⟩
abbrev cX1_rowBack : ByteArray := prog_3_method_4_code
def yX1_rowBack : MethodName := ⟨RX1, "rowBack", "(I)I"⟩
def RX2 : String := "LampChanger$History"
def TX2 : u_T := fun k => match k with
  | 0 => ("LampChanger$History", "ring", "[LLampChanger$Beacon;", true)
  | 1 => ("LampChanger$History", "states", "I", false)
  | _ => ("LampChanger$History", "oldest", "I", false)
def tyX2 : Nat → FieldType := fun k => match k with
  | 0 => .array (.object "LampChanger$Beacon")
  | 1 => .int
  | _ => .int
theorem nmX2 : ∀ a, a < 3 → ∀ b, b < 3 → a ≠ b → (TX2 a).2.1 ≠ (TX2 b).2.1 := by decide +kernel
theorem tyX2_ok : ∀ k, k < 3 → parseFieldDescriptor (TX2 k).2.2.1 = some (tyX2 k) := by decide +kernel
abbrev cX2_init : ByteArray := prog_4_method_1_code
def yX2_init : MethodName := ⟨RX2, "<init>", "()V"⟩
abbrev cX2_record : ByteArray := prog_4_method_2_code
def yX2_record : MethodName := ⟨RX2, "record", "(LLampChanger$Beacon;)V"⟩
abbrev cX2_takeBackInto : ByteArray := prog_4_method_3_code
def yX2_takeBackInto : MethodName := ⟨RX2, "takeBackInto", "(LLampChanger$Beacon;)V"⟩
abbrev cX2_behindLatest : ByteArray := prog_4_method_4_code
def yX2_behindLatest : MethodName := ⟨RX2, "behindLatest", "()LLampChanger$Beacon;"⟩
def RX3 : String := "LampChanger$Lamp"
def TX3 : u_T := fun k => match k with
  | 0 => ("LampChanger$Lamp", "kind", "I", false)
  | 1 => ("LampChanger$Lamp", "strength", "I", false)
  | 2 => ("LampChanger$Lamp", "life", "I", false)
  | 3 => ("LampChanger$Lamp", "wear", "I", false)
  | 4 => ("LampChanger$Lamp", "ticksBelow", "I", false)
  | _ => ("LampChanger$Lamp", "tired", "Z", false)
def tyX3 : Nat → FieldType := fun k => match k with
  | 0 => .int
  | 1 => .int
  | 2 => .int
  | 3 => .int
  | 4 => .int
  | _ => .boolean
theorem nmX3 : ∀ a, a < 6 → ∀ b, b < 6 → a ≠ b → (TX3 a).2.1 ≠ (TX3 b).2.1 := by decide +kernel
theorem tyX3_ok : ∀ k, k < 6 → parseFieldDescriptor (TX3 k).2.2.1 = some (tyX3 k) := by decide +kernel
abbrev cX3_init : ByteArray := prog_5_method_1_code
def yX3_init : MethodName := ⟨RX3, "<init>", "()V"⟩
abbrev cX3_makeNew : ByteArray := prog_5_method_2_code
def yX3_makeNew : MethodName := ⟨RX3, "makeNew", "(II)V"⟩
abbrev cX3_remove : ByteArray := prog_5_method_3_code
def yX3_remove : MethodName := ⟨RX3, "remove", "()V"⟩
abbrev cX3_copyFrom : ByteArray := prog_5_method_4_code
def yX3_copyFrom : MethodName := ⟨RX3, "copyFrom", "(LLampChanger$Lamp;)V"⟩
abbrev cX3_isThere : ByteArray := prog_5_method_5_code
def yX3_isThere : MethodName := ⟨RX3, "isThere", "()Z"⟩
abbrev cX3_isBurntOut : ByteArray := prog_5_method_6_code
def yX3_isBurntOut : MethodName := ⟨RX3, "isBurntOut", "()Z"⟩
abbrev cX3_isUsable : ByteArray := prog_5_method_7_code
def yX3_isUsable : MethodName := ⟨RX3, "isUsable", "()Z"⟩
abbrev cX3_isFresh : ByteArray := prog_5_method_8_code
def yX3_isFresh : MethodName := ⟨RX3, "isFresh", "()Z"⟩
abbrev cX3_left : ByteArray := prog_5_method_9_code
def yX3_left : MethodName := ⟨RX3, "left", "()I"⟩
abbrev cX3_current : ByteArray := prog_5_method_10_code
def yX3_current : MethodName := ⟨RX3, "current", "()I"⟩
abbrev cX3_wearBySwitchingOn : ByteArray := prog_5_method_11_code
def yX3_wearBySwitchingOn : MethodName := ⟨RX3, "wearBySwitchingOn", "()V"⟩
abbrev cX3_growsTiredByBurning : ByteArray := prog_5_method_12_code
def yX3_growsTiredByBurning : MethodName := ⟨RX3, "growsTiredByBurning", "(II)Z"⟩
def RX4 : String := "LampChanger$Plan"
def TX4 : u_T := fun k => match k with
  | 0 => ("LampChanger$Plan", "ticks", "[I", true)
  | 1 => ("LampChanger$Plan", "kinds", "[I", true)
  | 2 => ("LampChanger$Plan", "loads", "[I", true)
  | _ => ("LampChanger$Plan", "boats", "I", false)
def tyX4 : Nat → FieldType := fun k => match k with
  | 0 => .array .int
  | 1 => .array .int
  | 2 => .array .int
  | _ => .int
theorem nmX4 : ∀ a, a < 4 → ∀ b, b < 4 → a ≠ b → (TX4 a).2.1 ≠ (TX4 b).2.1 := by decide +kernel
theorem tyX4_ok : ∀ k, k < 4 → parseFieldDescriptor (TX4 k).2.2.1 = some (tyX4 k) := by decide +kernel
abbrev cX4_init : ByteArray := prog_6_method_1_code
def yX4_init : MethodName := ⟨RX4, "<init>", "()V"⟩
abbrev cX4_copyFrom : ByteArray := prog_6_method_2_code
def yX4_copyFrom : MethodName := ⟨RX4, "copyFrom", "(LLampChanger$Plan;)V"⟩
abbrev cX4_empty : ByteArray := prog_6_method_3_code
def yX4_empty : MethodName := ⟨RX4, "empty", "()V"⟩
abbrev cX4_rowOfTick : ByteArray := prog_6_method_4_code
def yX4_rowOfTick : MethodName := ⟨RX4, "rowOfTick", "(I)I"⟩
abbrev cX4_hasRoomFor : ByteArray := prog_6_method_5_code
def yX4_hasRoomFor : MethodName := ⟨RX4, "hasRoomFor", "(I)Z"⟩
abbrev cX4_enter : ByteArray := prog_6_method_6_code
def yX4_enter : MethodName := ⟨RX4, "enter", "(III)V"⟩
abbrev cX4_rowOfPlace : ByteArray := prog_6_method_7_code
def yX4_rowOfPlace : MethodName := ⟨RX4, "rowOfPlace", "(I)I"⟩
abbrev cX4_boatsAheadOf : ByteArray := prog_6_method_8_code
def yX4_boatsAheadOf : MethodName := ⟨RX4, "boatsAheadOf", "(I)I"⟩
def RX5 : String := "LampChanger$PlanText"
def TX5 : u_T := fun k => match k with
  | 0 => ("LampChanger$PlanText", "signs", "[C", true)
  | 1 => ("LampChanger$PlanText", "length", "I", false)
  | 2 => ("LampChanger$PlanText", "hadTooManyBoats", "Z", false)
  | 3 => ("LampChanger$PlanText", "place", "I", false)
  | 4 => ("LampChanger$PlanText", "digits", "I", false)
  | 5 => ("LampChanger$PlanText", "tick", "I", false)
  | _ => ("LampChanger$PlanText", "kind", "I", false)
def tyX5 : Nat → FieldType := fun k => match k with
  | 0 => .array .char
  | 1 => .int
  | 2 => .boolean
  | 3 => .int
  | 4 => .int
  | 5 => .int
  | _ => .int
theorem nmX5 : ∀ a, a < 7 → ∀ b, b < 7 → a ≠ b → (TX5 a).2.1 ≠ (TX5 b).2.1 := by decide +kernel
theorem tyX5_ok : ∀ k, k < 7 → parseFieldDescriptor (TX5 k).2.2.1 = some (tyX5 k) := by decide +kernel
abbrev cX5_init : ByteArray := prog_7_method_1_code
def yX5_init : MethodName := ⟨RX5, "<init>", "()V"⟩
abbrev cX5_add : ByteArray := prog_7_method_2_code
def yX5_add : MethodName := ⟨RX5, "add", "(C)Z"⟩
abbrev cX5_readInto : ByteArray := prog_7_method_3_code
def yX5_readInto : MethodName := ⟨RX5, "readInto", "(LLampChanger$Plan;)I"⟩
abbrev cX5_beginBoat : ByteArray := prog_7_method_4_code
def yX5_beginBoat : MethodName := ⟨RX5, "beginBoat", "()V"⟩
abbrev cX5_allows : ByteArray := prog_7_method_5_code
def yX5_allows : MethodName := ⟨RX5, "allows", "(CLLampChanger$Plan;)Z"⟩
abbrev cX5_allowsInTick : ByteArray := prog_7_method_6_code
def yX5_allowsInTick : MethodName := ⟨RX5, "allowsInTick", "(C)Z"⟩
abbrev cX5_allowsAsKind : ByteArray := prog_7_method_7_code
def yX5_allowsAsKind : MethodName := ⟨RX5, "allowsAsKind", "(C)Z"⟩
abbrev cX5_allowsAsLoad : ByteArray := prog_7_method_8_code
def yX5_allowsAsLoad : MethodName := ⟨RX5, "allowsAsLoad", "(CLLampChanger$Plan;)Z"⟩
def RX6 : String := "LampChanger$Rows"
def TX6 : u_T := fun k => match k with
  | _ => ("", "", "", false)
def tyX6 : Nat → FieldType := fun k => match k with
  | _ => .int
theorem nmX6 : ∀ a, a < 0 → ∀ b, b < 0 → a ≠ b → (TX6 a).2.1 ≠ (TX6 b).2.1 := by decide +kernel
theorem tyX6_ok : ∀ k, k < 0 → parseFieldDescriptor (TX6 k).2.2.1 = some (tyX6 k) := by decide +kernel
abbrev cX6_at : ByteArray := prog_8_method_2_code
def yX6_at : MethodName := ⟨RX6, "at", "([II)I"⟩
abbrev cX6_write : ByteArray := prog_8_method_3_code
def yX6_write : MethodName := ⟨RX6, "write", "([III)V"⟩
abbrev cX6_copy : ByteArray := prog_8_method_4_code
def yX6_copy : MethodName := ⟨RX6, "copy", "([I[I)V"⟩
def RX7 : String := "LampChanger$Wheel"
def TX7 : u_T := fun k => match k with
  | 0 => ("LampChanger$Wheel", "lamps", "[LLampChanger$Lamp;", true)
  | 1 => ("LampChanger$Wheel", "noLamp", "LLampChanger$Lamp;", true)
  | 2 => ("LampChanger$Wheel", "front", "I", false)
  | 3 => ("LampChanger$Wheel", "aim", "I", false)
  | 4 => ("LampChanger$Wheel", "ticksToGo", "I", false)
  | _ => ("LampChanger$Wheel", "burns", "Z", false)
def tyX7 : Nat → FieldType := fun k => match k with
  | 0 => .array (.object "LampChanger$Lamp")
  | 1 => .object "LampChanger$Lamp"
  | 2 => .int
  | 3 => .int
  | 4 => .int
  | _ => .boolean
theorem nmX7 : ∀ a, a < 6 → ∀ b, b < 6 → a ≠ b → (TX7 a).2.1 ≠ (TX7 b).2.1 := by decide +kernel
theorem tyX7_ok : ∀ k, k < 6 → parseFieldDescriptor (TX7 k).2.2.1 = some (tyX7 k) := by decide +kernel
abbrev cX7_init : ByteArray := prog_9_method_1_code
def yX7_init : MethodName := ⟨RX7, "<init>", "()V"⟩
abbrev cX7_copyFrom : ByteArray := prog_9_method_2_code
def yX7_copyFrom : MethodName := ⟨RX7, "copyFrom", "(LLampChanger$Wheel;)V"⟩
abbrev cX7_lampAt : ByteArray := prog_9_method_3_code
def yX7_lampAt : MethodName := ⟨RX7, "lampAt", "(I)LLampChanger$Lamp;"⟩
abbrev cX7_burnsAt : ByteArray := prog_9_method_4_code
def yX7_burnsAt : MethodName := ⟨RX7, "burnsAt", "(I)Z"⟩
abbrev cX7_isTurning : ByteArray := prog_9_method_5_code
def yX7_isTurning : MethodName := ⟨RX7, "isTurning", "()Z"⟩
abbrev cX7_startTurn : ByteArray := prog_9_method_6_code
def yX7_startTurn : MethodName := ⟨RX7, "startTurn", "(II)V"⟩
abbrev cX7_goOn : ByteArray := prog_9_method_7_code
def yX7_goOn : MethodName := ⟨RX7, "goOn", "()V"⟩
abbrev cX7_nextSocket : ByteArray := prog_9_method_8_code
def yX7_nextSocket : MethodName := ⟨RX7, "nextSocket", "()I"⟩
abbrev cX7_socketOfRank : ByteArray := prog_9_method_9_code
def yX7_socketOfRank : MethodName := ⟨RX7, "socketOfRank", "(I)I"⟩
abbrev cX7_usableOnesAheadOf : ByteArray := prog_9_method_10_code
def yX7_usableOnesAheadOf : MethodName := ⟨RX7, "usableOnesAheadOf", "(I)I"⟩
abbrev cX7_lampsThere : ByteArray := prog_9_method_11_code
def yX7_lampsThere : MethodName := ⟨RX7, "lampsThere", "()I"⟩
abbrev cX7_lampsBurntOut : ByteArray := prog_9_method_12_code
def yX7_lampsBurntOut : MethodName := ⟨RX7, "lampsBurntOut", "()I"⟩
abbrev cX7_lampsTired : ByteArray := prog_9_method_13_code
def yX7_lampsTired : MethodName := ⟨RX7, "lampsTired", "()I"⟩
def RX8 : String := "LampChanger"
def TX8 : u_T := fun k => match k with
  | 0 => ("LampChanger", "beacon", "LLampChanger$Beacon;", true)
  | 1 => ("LampChanger", "snapshot", "LLampChanger$Beacon;", true)
  | 2 => ("LampChanger", "rehearsal", "LLampChanger$Beacon;", true)
  | 3 => ("LampChanger", "trial", "LLampChanger$Lamp;", true)
  | 4 => ("LampChanger", "history", "LLampChanger$History;", true)
  | 5 => ("LampChanger", "text", "LLampChanger$PlanText;", true)
  | 6 => ("LampChanger", "planOfText", "LLampChanger$Plan;", true)
  | _ => ("LampChanger", "hasSnapshot", "Z", false)
def tyX8 : Nat → FieldType := fun k => match k with
  | 0 => .object "LampChanger$Beacon"
  | 1 => .object "LampChanger$Beacon"
  | 2 => .object "LampChanger$Beacon"
  | 3 => .object "LampChanger$Lamp"
  | 4 => .object "LampChanger$History"
  | 5 => .object "LampChanger$PlanText"
  | 6 => .object "LampChanger$Plan"
  | _ => .boolean
theorem nmX8 : ∀ a, a < 8 → ∀ b, b < 8 → a ≠ b → (TX8 a).2.1 ≠ (TX8 b).2.1 := by decide +kernel
theorem tyX8_ok : ∀ k, k < 8 → parseFieldDescriptor (TX8 k).2.2.1 = some (tyX8 k) := by decide +kernel
abbrev cX8_init : ByteArray := prog_1_method_1_code
def yX8_init : MethodName := ⟨RX8, "<init>", "()V"⟩
abbrev cX8_set : ByteArray := prog_1_method_2_code
def yX8_set : MethodName := ⟨RX8, "set", "(II)I"⟩
abbrev cX8_setNight : ByteArray := prog_1_method_3_code
def yX8_setNight : MethodName := ⟨RX8, "setNight", "(II)I"⟩
abbrev cX8_putIn : ByteArray := prog_1_method_4_code
def yX8_putIn : MethodName := ⟨RX8, "putIn", "(III)I"⟩
abbrev cX8_takeOut : ByteArray := prog_1_method_5_code
def yX8_takeOut : MethodName := ⟨RX8, "takeOut", "(I)I"⟩
abbrev cX8_turnTo : ByteArray := prog_1_method_6_code
def yX8_turnTo : MethodName := ⟨RX8, "turnTo", "(I)I"⟩
abbrev cX8_stock : ByteArray := prog_1_method_7_code
def yX8_stock : MethodName := ⟨RX8, "stock", "(II)I"⟩
abbrev cX8_boat : ByteArray := prog_1_method_8_code
def yX8_boat : MethodName := ⟨RX8, "boat", "(III)I"⟩
abbrev cX8_readPlan : ByteArray := prog_1_method_9_code
def yX8_readPlan : MethodName := ⟨RX8, "readPlan", "()I"⟩
abbrev cX8_pass : ByteArray := prog_1_method_10_code
def yX8_pass : MethodName := ⟨RX8, "pass", "(I)I"⟩
abbrev cX8_type : ByteArray := prog_1_method_11_code
def yX8_type : MethodName := ⟨RX8, "type", "(C)I"⟩
abbrev cX8_clearText : ByteArray := prog_1_method_12_code
def yX8_clearText : MethodName := ⟨RX8, "clearText", "()I"⟩
abbrev cX8_undo : ByteArray := prog_1_method_13_code
def yX8_undo : MethodName := ⟨RX8, "undo", "()I"⟩
abbrev cX8_keep : ByteArray := prog_1_method_14_code
def yX8_keep : MethodName := ⟨RX8, "keep", "()I"⟩
abbrev cX8_restore : ByteArray := prog_1_method_15_code
def yX8_restore : MethodName := ⟨RX8, "restore", "()I"⟩
abbrev cX8_lamp : ByteArray := prog_1_method_16_code
def yX8_lamp : MethodName := ⟨RX8, "lamp", "(II)I"⟩
abbrev cX8_wheel : ByteArray := prog_1_method_17_code
def yX8_wheel : MethodName := ⟨RX8, "wheel", "(I)I"⟩
abbrev cX8_tiredIn : ByteArray := prog_1_method_18_code
def yX8_tiredIn : MethodName := ⟨RX8, "tiredIn", "(I)I"⟩
abbrev cX8_darkIn : ByteArray := prog_1_method_19_code
def yX8_darkIn : MethodName := ⟨RX8, "darkIn", "()I"⟩
abbrev cX8_ranked : ByteArray := prog_1_method_20_code
def yX8_ranked : MethodName := ⟨RX8, "ranked", "(I)I"⟩
abbrev cX8_planned : ByteArray := prog_1_method_21_code
def yX8_planned : MethodName := ⟨RX8, "planned", "(II)I"⟩
abbrev cX8_event : ByteArray := prog_1_method_22_code
def yX8_event : MethodName := ⟨RX8, "event", "(II)I"⟩
abbrev cX8_count : ByteArray := prog_1_method_23_code
def yX8_count : MethodName := ⟨RX8, "count", "(I)I"⟩
abbrev cX8_setting : ByteArray := prog_1_method_24_code
def yX8_setting : MethodName := ⟨RX8, "setting", "(I)I"⟩
abbrev cX8_isFromTo : ByteArray := prog_1_method_25_code
def yX8_isFromTo : MethodName := ⟨RX8, "isFromTo", "(III)Z"⟩
abbrev cX8_isSetting : ByteArray := prog_1_method_26_code
def yX8_isSetting : MethodName := ⟨RX8, "isSetting", "(I)Z"⟩
abbrev cX8_isPlaceOfDay : ByteArray := prog_1_method_27_code
def yX8_isPlaceOfDay : MethodName := ⟨RX8, "isPlaceOfDay", "(I)Z"⟩
abbrev cX8_isSocket : ByteArray := prog_1_method_28_code
def yX8_isSocket : MethodName := ⟨RX8, "isSocket", "(I)Z"⟩
abbrev cX8_isKind : ByteArray := prog_1_method_29_code
def yX8_isKind : MethodName := ⟨RX8, "isKind", "(I)Z"⟩
abbrev cX8_isLoad : ByteArray := prog_1_method_30_code
def yX8_isLoad : MethodName := ⟨RX8, "isLoad", "(I)Z"⟩
abbrev cX8_oneIf : ByteArray := prog_1_method_31_code
def yX8_oneIf : MethodName := ⟨RX8, "oneIf", "(Z)I"⟩
def RX9 : String := "LampChangerModel"
def TX9 : u_T := fun k => match k with
  | 0 => ("LampChangerModel", "s", "[I", true)
  | 1 => ("LampChangerModel", "trial", "[I", true)
  | 2 => ("LampChangerModel", "past", "[I", true)
  | 3 => ("LampChangerModel", "saved", "I", false)
  | 4 => ("LampChangerModel", "shot", "[I", true)
  | 5 => ("LampChangerModel", "isShot", "Z", false)
  | 6 => ("LampChangerModel", "text", "[C", true)
  | 7 => ("LampChangerModel", "length", "I", false)
  | 8 => ("LampChangerModel", "spot", "I", false)
  | 9 => ("LampChangerModel", "read", "[I", true)
  | _ => ("LampChangerModel", "readMany", "I", false)
def tyX9 : Nat → FieldType := fun k => match k with
  | 0 => .array .int
  | 1 => .array .int
  | 2 => .array .int
  | 3 => .int
  | 4 => .array .int
  | 5 => .boolean
  | 6 => .array .char
  | 7 => .int
  | 8 => .int
  | 9 => .array .int
  | _ => .int
theorem nmX9 : ∀ a, a < 11 → ∀ b, b < 11 → a ≠ b → (TX9 a).2.1 ≠ (TX9 b).2.1 := by decide +kernel
theorem tyX9_ok : ∀ k, k < 11 → parseFieldDescriptor (TX9 k).2.2.1 = some (tyX9 k) := by decide +kernel
abbrev cX9_init : ByteArray := prog_11_method_1_code
def yX9_init : MethodName := ⟨RX9, "<init>", "()V"⟩
abbrev cX9_in : ByteArray := prog_11_method_2_code
def yX9_in : MethodName := ⟨RX9, "in", "(III)Z"⟩
abbrev cX9_isSocket : ByteArray := prog_11_method_3_code
def yX9_isSocket : MethodName := ⟨RX9, "isSocket", "(I)Z"⟩
abbrev cX9_lays : ByteArray := prog_11_method_4_code
def yX9_lays : MethodName := ⟨RX9, "lays", "([II[II)V"⟩
abbrev cX9_records : ByteArray := prog_11_method_5_code
def yX9_records : MethodName := ⟨RX9, "records", "()V"⟩
abbrev cX9_undo : ByteArray := prog_11_method_6_code
def yX9_undo : MethodName := ⟨RX9, "undo", "()I"⟩
abbrev cX9_keep : ByteArray := prog_11_method_7_code
def yX9_keep : MethodName := ⟨RX9, "keep", "()I"⟩
abbrev cX9_restore : ByteArray := prog_11_method_8_code
def yX9_restore : MethodName := ⟨RX9, "restore", "()I"⟩
abbrev cX9_of : ByteArray := prog_11_method_9_code
def yX9_of : MethodName := ⟨RX9, "of", "([III)I"⟩
abbrev cX9_puts : ByteArray := prog_11_method_10_code
def yX9_puts : MethodName := ⟨RX9, "puts", "([IIII)V"⟩
abbrev cX9_empties : ByteArray := prog_11_method_11_code
def yX9_empties : MethodName := ⟨RX9, "empties", "([II)V"⟩
abbrev cX9_isThere : ByteArray := prog_11_method_12_code
def yX9_isThere : MethodName := ⟨RX9, "isThere", "([II)Z"⟩
abbrev cX9_comes : ByteArray := prog_11_method_13_code
def yX9_comes : MethodName := ⟨RX9, "comes", "([IIII)V"⟩
abbrev cX9_by : ByteArray := prog_11_method_14_code
def yX9_by : MethodName := ⟨RX9, "by", "(IIII)I"⟩
abbrev cX9_life : ByteArray := prog_11_method_15_code
def yX9_life : MethodName := ⟨RX9, "life", "([II)I"⟩
abbrev cX9_nominal : ByteArray := prog_11_method_16_code
def yX9_nominal : MethodName := ⟨RX9, "nominal", "([II)I"⟩
abbrev cX9_isOut : ByteArray := prog_11_method_17_code
def yX9_isOut : MethodName := ⟨RX9, "isOut", "([II)Z"⟩
abbrev cX9_current : ByteArray := prog_11_method_18_code
def yX9_current : MethodName := ⟨RX9, "current", "([II)I"⟩
abbrev cX9_isBelow : ByteArray := prog_11_method_19_code
def yX9_isBelow : MethodName := ⟨RX9, "isBelow", "([II)Z"⟩
abbrev cX9_isGood : ByteArray := prog_11_method_20_code
def yX9_isGood : MethodName := ⟨RX9, "isGood", "([IIZ)Z"⟩
abbrev cX9_found : ByteArray := prog_11_method_21_code
def yX9_found : MethodName := ⟨RX9, "found", "([IZ)I"⟩
abbrev cX9_next : ByteArray := prog_11_method_22_code
def yX9_next : MethodName := ⟨RX9, "next", "([I)I"⟩
abbrev cX9_happens : ByteArray := prog_11_method_23_code
def yX9_happens : MethodName := ⟨RX9, "happens", "([III)V"⟩
abbrev cX9_turns : ByteArray := prog_11_method_24_code
def yX9_turns : MethodName := ⟨RX9, "turns", "([II)V"⟩
abbrev cX9_isNight : ByteArray := prog_11_method_25_code
def yX9_isNight : MethodName := ⟨RX9, "isNight", "([I)Z"⟩
abbrev cX9_burns : ByteArray := prog_11_method_26_code
def yX9_burns : MethodName := ⟨RX9, "burns", "([II)V"⟩
abbrev cX9_isLit : ByteArray := prog_11_method_27_code
def yX9_isLit : MethodName := ⟨RX9, "isLit", "([I)Z"⟩
abbrev cX9_days : ByteArray := prog_11_method_28_code
def yX9_days : MethodName := ⟨RX9, "days", "([I)V"⟩
abbrev cX9_lowest : ByteArray := prog_11_method_29_code
def yX9_lowest : MethodName := ⟨RX9, "lowest", "([I)I"⟩
abbrev cX9_lands : ByteArray := prog_11_method_30_code
def yX9_lands : MethodName := ⟨RX9, "lands", "([II)V"⟩
abbrev cX9_passes : ByteArray := prog_11_method_31_code
def yX9_passes : MethodName := ⟨RX9, "passes", "([IZ)Z"⟩
abbrev cX9_isFor : ByteArray := prog_11_method_32_code
def yX9_isFor : MethodName := ⟨RX9, "isFor", "(II)Z"⟩
abbrev cX9_set : ByteArray := prog_11_method_33_code
def yX9_set : MethodName := ⟨RX9, "set", "(II)I"⟩
abbrev cX9_setNight : ByteArray := prog_11_method_34_code
def yX9_setNight : MethodName := ⟨RX9, "setNight", "(II)I"⟩
abbrev cX9_isKind : ByteArray := prog_11_method_35_code
def yX9_isKind : MethodName := ⟨RX9, "isKind", "(I)Z"⟩
abbrev cX9_putIn : ByteArray := prog_11_method_36_code
def yX9_putIn : MethodName := ⟨RX9, "putIn", "(III)I"⟩
abbrev cX9_takeOut : ByteArray := prog_11_method_37_code
def yX9_takeOut : MethodName := ⟨RX9, "takeOut", "(I)I"⟩
abbrev cX9_turnTo : ByteArray := prog_11_method_38_code
def yX9_turnTo : MethodName := ⟨RX9, "turnTo", "(I)I"⟩
abbrev cX9_stock : ByteArray := prog_11_method_39_code
def yX9_stock : MethodName := ⟨RX9, "stock", "(II)I"⟩
abbrev cX9_placeOf : ByteArray := prog_11_method_40_code
def yX9_placeOf : MethodName := ⟨RX9, "placeOf", "(I)I"⟩
abbrev cX9_isPlanned : ByteArray := prog_11_method_41_code
def yX9_isPlanned : MethodName := ⟨RX9, "isPlanned", "(I)Z"⟩
abbrev cX9_plans : ByteArray := prog_11_method_42_code
def yX9_plans : MethodName := ⟨RX9, "plans", "(III)V"⟩
abbrev cX9_boat : ByteArray := prog_11_method_43_code
def yX9_boat : MethodName := ⟨RX9, "boat", "(III)I"⟩
abbrev cX9_pass : ByteArray := prog_11_method_44_code
def yX9_pass : MethodName := ⟨RX9, "pass", "(I)I"⟩
abbrev cX9_type : ByteArray := prog_11_method_45_code
def yX9_type : MethodName := ⟨RX9, "type", "(C)I"⟩
abbrev cX9_clearText : ByteArray := prog_11_method_46_code
def yX9_clearText : MethodName := ⟨RX9, "clearText", "()I"⟩
abbrev cX9_sees : ByteArray := prog_11_method_47_code
def yX9_sees : MethodName := ⟨RX9, "sees", "(CC)Z"⟩
abbrev cX9_takes : ByteArray := prog_11_method_48_code
def yX9_takes : MethodName := ⟨RX9, "takes", "(C)Z"⟩
abbrev cX9_digit : ByteArray := prog_11_method_49_code
def yX9_digit : MethodName := ⟨RX9, "digit", "(CC)I"⟩
abbrev cX9_number : ByteArray := prog_11_method_50_code
def yX9_number : MethodName := ⟨RX9, "number", "()I"⟩
abbrev cX9_readsBoat : ByteArray := prog_11_method_51_code
def yX9_readsBoat : MethodName := ⟨RX9, "readsBoat", "()Z"⟩
abbrev cX9_isText : ByteArray := prog_11_method_52_code
def yX9_isText : MethodName := ⟨RX9, "isText", "()Z"⟩
abbrev cX9_unlike : ByteArray := prog_11_method_53_code
def yX9_unlike : MethodName := ⟨RX9, "unlike", "()I"⟩
abbrev cX9_readPlan : ByteArray := prog_11_method_54_code
def yX9_readPlan : MethodName := ⟨RX9, "readPlan", "()I"⟩
abbrev cX9_lamp : ByteArray := prog_11_method_55_code
def yX9_lamp : MethodName := ⟨RX9, "lamp", "(II)I"⟩
abbrev cX9_wheel : ByteArray := prog_11_method_56_code
def yX9_wheel : MethodName := ⟨RX9, "wheel", "(I)I"⟩
abbrev cX9_tiredIn : ByteArray := prog_11_method_57_code
def yX9_tiredIn : MethodName := ⟨RX9, "tiredIn", "(I)I"⟩
abbrev cX9_darkIn : ByteArray := prog_11_method_58_code
def yX9_darkIn : MethodName := ⟨RX9, "darkIn", "()I"⟩
abbrev cX9_left : ByteArray := prog_11_method_59_code
def yX9_left : MethodName := ⟨RX9, "left", "(I)I"⟩
abbrev cX9_ranked : ByteArray := prog_11_method_60_code
def yX9_ranked : MethodName := ⟨RX9, "ranked", "(I)I"⟩
abbrev cX9_planned : ByteArray := prog_11_method_61_code
def yX9_planned : MethodName := ⟨RX9, "planned", "(II)I"⟩
abbrev cX9_event : ByteArray := prog_11_method_62_code
def yX9_event : MethodName := ⟨RX9, "event", "(II)I"⟩
abbrev cX9_lamps : ByteArray := prog_11_method_63_code
def yX9_lamps : MethodName := ⟨RX9, "lamps", "(I)I"⟩
abbrev cX9_count : ByteArray := prog_11_method_64_code
def yX9_count : MethodName := ⟨RX9, "count", "(I)I"⟩
abbrev cX9_setting : ByteArray := prog_11_method_65_code
def yX9_setting : MethodName := ⟨RX9, "setting", "(I)I"⟩
def RJ9 : String := "java/lang/Math"
def TJ9 : u_T := fun k => match k with
  | _ => ("", "", "", false)
def tyJ9 : Nat → FieldType := fun k => match k with
  | _ => .int
theorem nmJ9 : ∀ a, a < 0 → ∀ b, b < 0 → a ≠ b → (TJ9 a).2.1 ≠ (TJ9 b).2.1 := by decide +kernel
theorem tyJ9_ok : ∀ k, k < 0 → parseFieldDescriptor (TJ9 k).2.2.1 = some (tyJ9 k) := by decide +kernel
abbrev cJ9_floorMod_7cf53 : ByteArray := prog_12_method_50_code
def yJ9_floorMod_7cf53 : MethodName := ⟨RJ9, "floorMod", "(II)I"⟩
abbrev cJ9_max_7cf53 : ByteArray := prog_12_method_65_code
def yJ9_max_7cf53 : MethodName := ⟨RJ9, "max", "(II)I"⟩
abbrev cJ9_min_7cf53 : ByteArray := prog_12_method_69_code
def yJ9_min_7cf53 : MethodName := ⟨RJ9, "min", "(II)I"⟩
def RJ10 : String := "java/lang/System"
def TJ10 : u_T := fun k => match k with
  | _ => ("", "", "", false)
def tyJ10 : Nat → FieldType := fun k => match k with
  | _ => .int
theorem nmJ10 : ∀ a, a < 0 → ∀ b, b < 0 → a ≠ b → (TJ10 a).2.1 ≠ (TJ10 b).2.1 := by decide +kernel
theorem tyJ10_ok : ∀ k, k < 0 → parseFieldDescriptor (TJ10 k).2.2.1 = some (tyJ10 k) := by decide +kernel
def RL : String := "LampChangerLaw"
abbrev cL_law : ByteArray := code
def yL_law : MethodName := ⟨RL, "law", "([I)Z"⟩
abbrev vwCl : List vw_C := [(RX0, TX0, 13), (RX1, TX1, 5), (RX2, TX2, 3), (RX3, TX3, 6), (RX4, TX4, 4), (RX5, TX5, 7), (RX7, TX7, 6), (RX8, TX8, 8), (RX9, TX9, 11)]
end
section
theorem dX0_init_0 : decode cX0_init 0 = .ok (.aload_n 0, 1) := by decide +kernel
theorem dX0_init_1 : decode cX0_init 1 = .ok (.invokespecial 3, 3) := by decide +kernel
theorem dX0_init_4 : decode cX0_init 4 = .ok (.aload_n 0, 1) := by decide +kernel
theorem dX0_init_5 : decode cX0_init 5 = .ok (.getstatic 9, 3) := by decide +kernel
theorem dX0_init_8 : decode cX0_init 8 = .ok (.arraylength, 1) := by decide +kernel
theorem dX0_init_9 : decode cX0_init 9 = .ok (.newarray .int, 2) := by decide +kernel
theorem dX0_init_11 : decode cX0_init 11 = .ok (.putfield 13, 3) := by decide +kernel
theorem dX0_init_14 : decode cX0_init 14 = .ok (.getstatic 9, 3) := by decide +kernel
theorem dX0_init_17 : decode cX0_init 17 = .ok (.aload_n 0, 1) := by decide +kernel
theorem dX0_init_18 : decode cX0_init 18 = .ok (.getfield 13, 3) := by decide +kernel
theorem dX0_init_21 : decode cX0_init 21 = .ok (.invokestatic 18, 3) := by decide +kernel
theorem dX0_init_24 : decode cX0_init 24 = .ok (.aload_n 0, 1) := by decide +kernel
theorem dX0_init_25 : decode cX0_init 25 = .ok (.iconst 3, 1) := by decide +kernel
theorem dX0_init_26 : decode cX0_init 26 = .ok (.newarray .int, 2) := by decide +kernel
theorem dX0_init_28 : decode cX0_init 28 = .ok (.putfield 24, 3) := by decide +kernel
theorem dX0_init_31 : decode cX0_init 31 = .ok (.aload_n 0, 1) := by decide +kernel
theorem dX0_init_32 : decode cX0_init 32 = .ok (.new 27, 3) := by decide +kernel
theorem dX0_init_35 : decode cX0_init 35 = .ok (.dup, 1) := by decide +kernel
theorem dX0_init_36 : decode cX0_init 36 = .ok (.invokespecial 29, 3) := by decide +kernel
theorem dX0_init_39 : decode cX0_init 39 = .ok (.putfield 30, 3) := by decide +kernel
theorem dX0_init_42 : decode cX0_init 42 = .ok (.aload_n 0, 1) := by decide +kernel
theorem dX0_init_43 : decode cX0_init 43 = .ok (.new 34, 3) := by decide +kernel
theorem dX0_init_46 : decode cX0_init 46 = .ok (.dup, 1) := by decide +kernel
theorem dX0_init_47 : decode cX0_init 47 = .ok (.invokespecial 36, 3) := by decide +kernel
theorem dX0_init_50 : decode cX0_init 50 = .ok (.putfield 37, 3) := by decide +kernel
theorem dX0_init_53 : decode cX0_init 53 = .ok (.aload_n 0, 1) := by decide +kernel
theorem dX0_init_54 : decode cX0_init 54 = .ok (.new 41, 3) := by decide +kernel
theorem dX0_init_57 : decode cX0_init 57 = .ok (.dup, 1) := by decide +kernel
theorem dX0_init_58 : decode cX0_init 58 = .ok (.invokespecial 43, 3) := by decide +kernel
theorem dX0_init_61 : decode cX0_init 61 = .ok (.putfield 44, 3) := by decide +kernel
theorem dX0_init_64 : decode cX0_init 64 = .ok (.aload_n 0, 1) := by decide +kernel
theorem dX0_init_65 : decode cX0_init 65 = .ok (.bipush 36, 2) := by decide +kernel
theorem dX0_init_67 : decode cX0_init 67 = .ok (.putfield 48, 3) := by decide +kernel
theorem dX0_init_70 : decode cX0_init 70 = .ok (.aload_n 0, 1) := by decide +kernel
theorem dX0_init_71 : decode cX0_init 71 = .ok (.bipush 12, 2) := by decide +kernel
theorem dX0_init_73 : decode cX0_init 73 = .ok (.putfield 52, 3) := by decide +kernel
theorem dX0_init_76 : decode cX0_init 76 = .ok (.return_, 1) := by decide +kernel
theorem dX0_copyFrom_0 : decode cX0_copyFrom 0 = .ok (.aload_n 1, 1) := by decide +kernel
theorem dX0_copyFrom_1 : decode cX0_copyFrom 1 = .ok (.getfield 13, 3) := by decide +kernel
theorem dX0_copyFrom_4 : decode cX0_copyFrom 4 = .ok (.aload_n 0, 1) := by decide +kernel
theorem dX0_copyFrom_5 : decode cX0_copyFrom 5 = .ok (.getfield 13, 3) := by decide +kernel
theorem dX0_copyFrom_8 : decode cX0_copyFrom 8 = .ok (.invokestatic 18, 3) := by decide +kernel
theorem dX0_copyFrom_11 : decode cX0_copyFrom 11 = .ok (.aload_n 1, 1) := by decide +kernel
theorem dX0_copyFrom_12 : decode cX0_copyFrom 12 = .ok (.getfield 24, 3) := by decide +kernel
theorem dX0_copyFrom_15 : decode cX0_copyFrom 15 = .ok (.aload_n 0, 1) := by decide +kernel
theorem dX0_copyFrom_16 : decode cX0_copyFrom 16 = .ok (.getfield 24, 3) := by decide +kernel
theorem dX0_copyFrom_19 : decode cX0_copyFrom 19 = .ok (.invokestatic 18, 3) := by decide +kernel
theorem dX0_copyFrom_22 : decode cX0_copyFrom 22 = .ok (.aload_n 0, 1) := by decide +kernel
theorem dX0_copyFrom_23 : decode cX0_copyFrom 23 = .ok (.getfield 30, 3) := by decide +kernel
theorem dX0_copyFrom_26 : decode cX0_copyFrom 26 = .ok (.aload_n 1, 1) := by decide +kernel
theorem dX0_copyFrom_27 : decode cX0_copyFrom 27 = .ok (.getfield 30, 3) := by decide +kernel
theorem dX0_copyFrom_30 : decode cX0_copyFrom 30 = .ok (.invokevirtual 55, 3) := by decide +kernel
theorem dX0_copyFrom_33 : decode cX0_copyFrom 33 = .ok (.aload_n 0, 1) := by decide +kernel
theorem dX0_copyFrom_34 : decode cX0_copyFrom 34 = .ok (.getfield 37, 3) := by decide +kernel
theorem dX0_copyFrom_37 : decode cX0_copyFrom 37 = .ok (.aload_n 1, 1) := by decide +kernel
theorem dX0_copyFrom_38 : decode cX0_copyFrom 38 = .ok (.getfield 37, 3) := by decide +kernel
theorem dX0_copyFrom_41 : decode cX0_copyFrom 41 = .ok (.invokevirtual 59, 3) := by decide +kernel
theorem dX0_copyFrom_44 : decode cX0_copyFrom 44 = .ok (.aload_n 0, 1) := by decide +kernel
theorem dX0_copyFrom_45 : decode cX0_copyFrom 45 = .ok (.getfield 44, 3) := by decide +kernel
theorem dX0_copyFrom_48 : decode cX0_copyFrom 48 = .ok (.aload_n 1, 1) := by decide +kernel
theorem dX0_copyFrom_49 : decode cX0_copyFrom 49 = .ok (.getfield 44, 3) := by decide +kernel
theorem dX0_copyFrom_52 : decode cX0_copyFrom 52 = .ok (.invokevirtual 62, 3) := by decide +kernel
theorem dX0_copyFrom_55 : decode cX0_copyFrom 55 = .ok (.aload_n 0, 1) := by decide +kernel
theorem dX0_copyFrom_56 : decode cX0_copyFrom 56 = .ok (.aload_n 1, 1) := by decide +kernel
theorem dX0_copyFrom_57 : decode cX0_copyFrom 57 = .ok (.getfield 65, 3) := by decide +kernel
theorem dX0_copyFrom_60 : decode cX0_copyFrom 60 = .ok (.putfield 65, 3) := by decide +kernel
theorem dX0_copyFrom_63 : decode cX0_copyFrom 63 = .ok (.aload_n 0, 1) := by decide +kernel
theorem dX0_copyFrom_64 : decode cX0_copyFrom 64 = .ok (.aload_n 1, 1) := by decide +kernel
theorem dX0_copyFrom_65 : decode cX0_copyFrom 65 = .ok (.getfield 48, 3) := by decide +kernel
theorem dX0_copyFrom_68 : decode cX0_copyFrom 68 = .ok (.putfield 48, 3) := by decide +kernel
theorem dX0_copyFrom_71 : decode cX0_copyFrom 71 = .ok (.aload_n 0, 1) := by decide +kernel
theorem dX0_copyFrom_72 : decode cX0_copyFrom 72 = .ok (.aload_n 1, 1) := by decide +kernel
theorem dX0_copyFrom_73 : decode cX0_copyFrom 73 = .ok (.getfield 52, 3) := by decide +kernel
theorem dX0_copyFrom_76 : decode cX0_copyFrom 76 = .ok (.putfield 52, 3) := by decide +kernel
theorem dX0_copyFrom_79 : decode cX0_copyFrom 79 = .ok (.aload_n 0, 1) := by decide +kernel
theorem dX0_copyFrom_80 : decode cX0_copyFrom 80 = .ok (.aload_n 1, 1) := by decide +kernel
theorem dX0_copyFrom_81 : decode cX0_copyFrom 81 = .ok (.getfield 68, 3) := by decide +kernel
theorem dX0_copyFrom_84 : decode cX0_copyFrom 84 = .ok (.putfield 68, 3) := by decide +kernel
theorem dX0_copyFrom_87 : decode cX0_copyFrom 87 = .ok (.aload_n 0, 1) := by decide +kernel
theorem dX0_copyFrom_88 : decode cX0_copyFrom 88 = .ok (.aload_n 1, 1) := by decide +kernel
theorem dX0_copyFrom_89 : decode cX0_copyFrom 89 = .ok (.getfield 71, 3) := by decide +kernel
theorem dX0_copyFrom_92 : decode cX0_copyFrom 92 = .ok (.putfield 71, 3) := by decide +kernel
theorem dX0_copyFrom_95 : decode cX0_copyFrom 95 = .ok (.aload_n 0, 1) := by decide +kernel
theorem dX0_copyFrom_96 : decode cX0_copyFrom 96 = .ok (.aload_n 1, 1) := by decide +kernel
theorem dX0_copyFrom_97 : decode cX0_copyFrom 97 = .ok (.getfield 74, 3) := by decide +kernel
theorem dX0_copyFrom_100 : decode cX0_copyFrom 100 = .ok (.putfield 74, 3) := by decide +kernel
theorem dX0_copyFrom_103 : decode cX0_copyFrom 103 = .ok (.aload_n 0, 1) := by decide +kernel
theorem dX0_copyFrom_104 : decode cX0_copyFrom 104 = .ok (.aload_n 1, 1) := by decide +kernel
theorem dX0_copyFrom_105 : decode cX0_copyFrom 105 = .ok (.getfield 77, 3) := by decide +kernel
theorem dX0_copyFrom_108 : decode cX0_copyFrom 108 = .ok (.putfield 77, 3) := by decide +kernel
theorem dX0_copyFrom_111 : decode cX0_copyFrom 111 = .ok (.aload_n 0, 1) := by decide +kernel
theorem dX0_copyFrom_112 : decode cX0_copyFrom 112 = .ok (.aload_n 1, 1) := by decide +kernel
theorem dX0_copyFrom_113 : decode cX0_copyFrom 113 = .ok (.getfield 80, 3) := by decide +kernel
theorem dX0_copyFrom_116 : decode cX0_copyFrom 116 = .ok (.putfield 80, 3) := by decide +kernel
theorem dX0_copyFrom_119 : decode cX0_copyFrom 119 = .ok (.return_, 1) := by decide +kernel
theorem dX0_ticksOfNight_0 : decode cX0_ticksOfNight 0 = .ok (.aload_n 0, 1) := by decide +kernel
theorem dX0_ticksOfNight_1 : decode cX0_ticksOfNight 1 = .ok (.getfield 52, 3) := by decide +kernel
theorem dX0_ticksOfNight_4 : decode cX0_ticksOfNight 4 = .ok (.aload_n 0, 1) := by decide +kernel
theorem dX0_ticksOfNight_5 : decode cX0_ticksOfNight 5 = .ok (.getfield 48, 3) := by decide +kernel
theorem dX0_ticksOfNight_8 : decode cX0_ticksOfNight 8 = .ok (.isub, 1) := by decide +kernel
theorem dX0_ticksOfNight_9 : decode cX0_ticksOfNight 9 = .ok (.bipush 48, 2) := by decide +kernel
theorem dX0_ticksOfNight_11 : decode cX0_ticksOfNight 11 = .ok (.invokestatic 83, 3) := by decide +kernel
theorem dX0_ticksOfNight_14 : decode cX0_ticksOfNight 14 = .ok (.ireturn, 1) := by decide +kernel
theorem dX0_isNight_0 : decode cX0_isNight 0 = .ok (.aload_n 0, 1) := by decide +kernel
theorem dX0_isNight_1 : decode cX0_isNight 1 = .ok (.getfield 65, 3) := by decide +kernel
theorem dX0_isNight_4 : decode cX0_isNight 4 = .ok (.aload_n 0, 1) := by decide +kernel
theorem dX0_isNight_5 : decode cX0_isNight 5 = .ok (.getfield 48, 3) := by decide +kernel
theorem dX0_isNight_8 : decode cX0_isNight 8 = .ok (.isub, 1) := by decide +kernel
theorem dX0_isNight_9 : decode cX0_isNight 9 = .ok (.bipush 48, 2) := by decide +kernel
theorem dX0_isNight_11 : decode cX0_isNight 11 = .ok (.invokestatic 83, 3) := by decide +kernel
theorem dX0_isNight_14 : decode cX0_isNight 14 = .ok (.aload_n 0, 1) := by decide +kernel
theorem dX0_isNight_15 : decode cX0_isNight 15 = .ok (.invokevirtual 89, 3) := by decide +kernel
theorem dX0_isNight_18 : decode cX0_isNight 18 = .ok (.if_icmp .ge 7, 3) := by decide +kernel
theorem dX0_isNight_21 : decode cX0_isNight 21 = .ok (.iconst 1, 1) := by decide +kernel
theorem dX0_isNight_22 : decode cX0_isNight 22 = .ok (.goto 4, 3) := by decide +kernel
theorem dX0_isNight_25 : decode cX0_isNight 25 = .ok (.iconst 0, 1) := by decide +kernel
theorem dX0_isNight_26 : decode cX0_isNight 26 = .ok (.ireturn, 1) := by decide +kernel
theorem dX0_passTick_0 : decode cX0_passTick 0 = .ok (.aload_n 0, 1) := by decide +kernel
theorem dX0_passTick_1 : decode cX0_passTick 1 = .ok (.invokevirtual 93, 3) := by decide +kernel
theorem dX0_passTick_4 : decode cX0_passTick 4 = .ok (.istore_n 2, 1) := by decide +kernel
theorem dX0_passTick_5 : decode cX0_passTick 5 = .ok (.iconst 0, 1) := by decide +kernel
theorem dX0_passTick_6 : decode cX0_passTick 6 = .ok (.istore_n 3, 1) := by decide +kernel
theorem dX0_passTick_7 : decode cX0_passTick 7 = .ok (.aload_n 0, 1) := by decide +kernel
theorem dX0_passTick_8 : decode cX0_passTick 8 = .ok (.getfield 30, 3) := by decide +kernel
theorem dX0_passTick_11 : decode cX0_passTick 11 = .ok (.invokevirtual 97, 3) := by decide +kernel
theorem dX0_passTick_14 : decode cX0_passTick 14 = .ok (.aload_n 0, 1) := by decide +kernel
theorem dX0_passTick_15 : decode cX0_passTick 15 = .ok (.getfield 30, 3) := by decide +kernel
theorem dX0_passTick_18 : decode cX0_passTick 18 = .ok (.invokevirtual 100, 3) := by decide +kernel
theorem dX0_passTick_21 : decode cX0_passTick 21 = .ok (.ifCond .ne 19, 3) := by decide +kernel
theorem dX0_passTick_24 : decode cX0_passTick 24 = .ok (.iload_n 2, 1) := by decide +kernel
theorem dX0_passTick_25 : decode cX0_passTick 25 = .ok (.ifCond .eq 11, 3) := by decide +kernel
theorem dX0_passTick_28 : decode cX0_passTick 28 = .ok (.aload_n 0, 1) := by decide +kernel
theorem dX0_passTick_29 : decode cX0_passTick 29 = .ok (.invokevirtual 103, 3) := by decide +kernel
theorem dX0_passTick_32 : decode cX0_passTick 32 = .ok (.istore_n 3, 1) := by decide +kernel
theorem dX0_passTick_33 : decode cX0_passTick 33 = .ok (.goto 7, 3) := by decide +kernel
theorem dX0_passTick_36 : decode cX0_passTick 36 = .ok (.aload_n 0, 1) := by decide +kernel
theorem dX0_passTick_37 : decode cX0_passTick 37 = .ok (.invokevirtual 106, 3) := by decide +kernel
theorem dX0_passTick_40 : decode cX0_passTick 40 = .ok (.iload_n 2, 1) := by decide +kernel
theorem dX0_passTick_41 : decode cX0_passTick 41 = .ok (.ifCond .eq 8, 3) := by decide +kernel
theorem dX0_passTick_44 : decode cX0_passTick 44 = .ok (.aload_n 0, 1) := by decide +kernel
theorem dX0_passTick_45 : decode cX0_passTick 45 = .ok (.iload_n 3, 1) := by decide +kernel
theorem dX0_passTick_46 : decode cX0_passTick 46 = .ok (.invokevirtual 109, 3) := by decide +kernel
theorem dX0_passTick_49 : decode cX0_passTick 49 = .ok (.iload_n 1, 1) := by decide +kernel
theorem dX0_passTick_50 : decode cX0_passTick 50 = .ok (.ifCond .eq 7, 3) := by decide +kernel
theorem dX0_passTick_53 : decode cX0_passTick 53 = .ok (.aload_n 0, 1) := by decide +kernel
theorem dX0_passTick_54 : decode cX0_passTick 54 = .ok (.invokevirtual 113, 3) := by decide +kernel
theorem dX0_passTick_57 : decode cX0_passTick 57 = .ok (.aload_n 0, 1) := by decide +kernel
theorem dX0_passTick_58 : decode cX0_passTick 58 = .ok (.dup, 1) := by decide +kernel
theorem dX0_passTick_59 : decode cX0_passTick 59 = .ok (.getfield 65, 3) := by decide +kernel
theorem dX0_passTick_62 : decode cX0_passTick 62 = .ok (.iconst 1, 1) := by decide +kernel
theorem dX0_passTick_63 : decode cX0_passTick 63 = .ok (.iadd, 1) := by decide +kernel
theorem dX0_passTick_64 : decode cX0_passTick 64 = .ok (.putfield 65, 3) := by decide +kernel
theorem dX0_passTick_67 : decode cX0_passTick 67 = .ok (.iload_n 2, 1) := by decide +kernel
theorem dX0_passTick_68 : decode cX0_passTick 68 = .ok (.ifCond .eq 11, 3) := by decide +kernel
theorem dX0_passTick_71 : decode cX0_passTick 71 = .ok (.iload_n 3, 1) := by decide +kernel
theorem dX0_passTick_72 : decode cX0_passTick 72 = .ok (.ifCond .ne 7, 3) := by decide +kernel
theorem dX0_passTick_75 : decode cX0_passTick 75 = .ok (.iconst 1, 1) := by decide +kernel
theorem dX0_passTick_76 : decode cX0_passTick 76 = .ok (.goto 4, 3) := by decide +kernel
theorem dX0_passTick_79 : decode cX0_passTick 79 = .ok (.iconst 0, 1) := by decide +kernel
theorem dX0_passTick_80 : decode cX0_passTick 80 = .ok (.ireturn, 1) := by decide +kernel
theorem dX0_shine_0 : decode cX0_shine 0 = .ok (.aload_n 0, 1) := by decide +kernel
theorem dX0_shine_1 : decode cX0_shine 1 = .ok (.getfield 30, 3) := by decide +kernel
theorem dX0_shine_4 : decode cX0_shine 4 = .ok (.aload_n 0, 1) := by decide +kernel
theorem dX0_shine_5 : decode cX0_shine 5 = .ok (.getfield 30, 3) := by decide +kernel
theorem dX0_shine_8 : decode cX0_shine 8 = .ok (.getfield 116, 3) := by decide +kernel
theorem dX0_shine_11 : decode cX0_shine 11 = .ok (.invokevirtual 119, 3) := by decide +kernel
theorem dX0_shine_14 : decode cX0_shine 14 = .ok (.astore_n 1, 1) := by decide +kernel
theorem dX0_shine_15 : decode cX0_shine 15 = .ok (.aload_n 1, 1) := by decide +kernel
theorem dX0_shine_16 : decode cX0_shine 16 = .ok (.invokevirtual 123, 3) := by decide +kernel
theorem dX0_shine_19 : decode cX0_shine 19 = .ok (.ifCond .eq 9, 3) := by decide +kernel
theorem dX0_shine_22 : decode cX0_shine 22 = .ok (.aload_n 0, 1) := by decide +kernel
theorem dX0_shine_23 : decode cX0_shine 23 = .ok (.aload_n 1, 1) := by decide +kernel
theorem dX0_shine_24 : decode cX0_shine 24 = .ok (.invokevirtual 128, 3) := by decide +kernel
theorem dX0_shine_27 : decode cX0_shine 27 = .ok (.ireturn, 1) := by decide +kernel
theorem dX0_shine_28 : decode cX0_shine 28 = .ok (.aload_n 0, 1) := by decide +kernel
theorem dX0_shine_29 : decode cX0_shine 29 = .ok (.getfield 30, 3) := by decide +kernel
theorem dX0_shine_32 : decode cX0_shine 32 = .ok (.invokevirtual 132, 3) := by decide +kernel
theorem dX0_shine_35 : decode cX0_shine 35 = .ok (.istore_n 2, 1) := by decide +kernel
theorem dX0_shine_36 : decode cX0_shine 36 = .ok (.iload_n 2, 1) := by decide +kernel
theorem dX0_shine_37 : decode cX0_shine 37 = .ok (.bipush (-5), 2) := by decide +kernel
theorem dX0_shine_39 : decode cX0_shine 39 = .ok (.if_icmp .eq 20, 3) := by decide +kernel
theorem dX0_shine_42 : decode cX0_shine 42 = .ok (.iload_n 2, 1) := by decide +kernel
theorem dX0_shine_43 : decode cX0_shine 43 = .ok (.aload_n 0, 1) := by decide +kernel
theorem dX0_shine_44 : decode cX0_shine 44 = .ok (.getfield 30, 3) := by decide +kernel
theorem dX0_shine_47 : decode cX0_shine 47 = .ok (.getfield 116, 3) := by decide +kernel
theorem dX0_shine_50 : decode cX0_shine 50 = .ok (.if_icmp .eq 9, 3) := by decide +kernel
theorem dX0_shine_53 : decode cX0_shine 53 = .ok (.aload_n 0, 1) := by decide +kernel
theorem dX0_shine_54 : decode cX0_shine 54 = .ok (.iconst 2, 1) := by decide +kernel
theorem dX0_shine_55 : decode cX0_shine 55 = .ok (.iload_n 2, 1) := by decide +kernel
theorem dX0_shine_56 : decode cX0_shine 56 = .ok (.invokevirtual 135, 3) := by decide +kernel
theorem dX0_shine_59 : decode cX0_shine 59 = .ok (.iconst 0, 1) := by decide +kernel
theorem dX0_shine_60 : decode cX0_shine 60 = .ok (.ireturn, 1) := by decide +kernel
theorem dX0_burn_0 : decode cX0_burn 0 = .ok (.aload_n 0, 1) := by decide +kernel
theorem dX0_burn_1 : decode cX0_burn 1 = .ok (.getfield 30, 3) := by decide +kernel
theorem dX0_burn_4 : decode cX0_burn 4 = .ok (.getfield 139, 3) := by decide +kernel
theorem dX0_burn_7 : decode cX0_burn 7 = .ok (.ifCond .ne 7, 3) := by decide +kernel
theorem dX0_burn_10 : decode cX0_burn 10 = .ok (.aload_n 1, 1) := by decide +kernel
theorem dX0_burn_11 : decode cX0_burn 11 = .ok (.invokevirtual 143, 3) := by decide +kernel
theorem dX0_burn_14 : decode cX0_burn 14 = .ok (.aload_n 1, 1) := by decide +kernel
theorem dX0_burn_15 : decode cX0_burn 15 = .ok (.invokevirtual 146, 3) := by decide +kernel
theorem dX0_burn_18 : decode cX0_burn 18 = .ok (.ifCond .ne 7, 3) := by decide +kernel
theorem dX0_burn_21 : decode cX0_burn 21 = .ok (.iconst 1, 1) := by decide +kernel
theorem dX0_burn_22 : decode cX0_burn 22 = .ok (.goto 4, 3) := by decide +kernel
theorem dX0_burn_25 : decode cX0_burn 25 = .ok (.iconst 0, 1) := by decide +kernel
theorem dX0_burn_26 : decode cX0_burn 26 = .ok (.istore_n 2, 1) := by decide +kernel
theorem dX0_burn_27 : decode cX0_burn 27 = .ok (.iload_n 2, 1) := by decide +kernel
theorem dX0_burn_28 : decode cX0_burn 28 = .ok (.ifCond .eq 38, 3) := by decide +kernel
theorem dX0_burn_31 : decode cX0_burn 31 = .ok (.aload_n 1, 1) := by decide +kernel
theorem dX0_burn_32 : decode cX0_burn 32 = .ok (.aload_n 0, 1) := by decide +kernel
theorem dX0_burn_33 : decode cX0_burn 33 = .ok (.getfield 13, 3) := by decide +kernel
theorem dX0_burn_36 : decode cX0_burn 36 = .ok (.iconst 0, 1) := by decide +kernel
theorem dX0_burn_37 : decode cX0_burn 37 = .ok (.invokestatic 149, 3) := by decide +kernel
theorem dX0_burn_40 : decode cX0_burn 40 = .ok (.aload_n 0, 1) := by decide +kernel
theorem dX0_burn_41 : decode cX0_burn 41 = .ok (.getfield 13, 3) := by decide +kernel
theorem dX0_burn_44 : decode cX0_burn 44 = .ok (.iconst 1, 1) := by decide +kernel
theorem dX0_burn_45 : decode cX0_burn 45 = .ok (.invokestatic 149, 3) := by decide +kernel
theorem dX0_burn_48 : decode cX0_burn 48 = .ok (.invokevirtual 153, 3) := by decide +kernel
theorem dX0_burn_51 : decode cX0_burn 51 = .ok (.ifCond .eq 15, 3) := by decide +kernel
theorem dX0_burn_54 : decode cX0_burn 54 = .ok (.aload_n 0, 1) := by decide +kernel
theorem dX0_burn_55 : decode cX0_burn 55 = .ok (.iconst 1, 1) := by decide +kernel
theorem dX0_burn_56 : decode cX0_burn 56 = .ok (.aload_n 0, 1) := by decide +kernel
theorem dX0_burn_57 : decode cX0_burn 57 = .ok (.getfield 30, 3) := by decide +kernel
theorem dX0_burn_60 : decode cX0_burn 60 = .ok (.getfield 116, 3) := by decide +kernel
theorem dX0_burn_63 : decode cX0_burn 63 = .ok (.invokevirtual 157, 3) := by decide +kernel
theorem dX0_burn_66 : decode cX0_burn 66 = .ok (.aload_n 0, 1) := by decide +kernel
theorem dX0_burn_67 : decode cX0_burn 67 = .ok (.getfield 30, 3) := by decide +kernel
theorem dX0_burn_70 : decode cX0_burn 70 = .ok (.aload_n 1, 1) := by decide +kernel
theorem dX0_burn_71 : decode cX0_burn 71 = .ok (.invokevirtual 146, 3) := by decide +kernel
theorem dX0_burn_74 : decode cX0_burn 74 = .ok (.ifCond .ne 7, 3) := by decide +kernel
theorem dX0_burn_77 : decode cX0_burn 77 = .ok (.iconst 1, 1) := by decide +kernel
theorem dX0_burn_78 : decode cX0_burn 78 = .ok (.goto 4, 3) := by decide +kernel
theorem dX0_burn_81 : decode cX0_burn 81 = .ok (.iconst 0, 1) := by decide +kernel
theorem dX0_burn_82 : decode cX0_burn 82 = .ok (.putfield 139, 3) := by decide +kernel
theorem dX0_burn_85 : decode cX0_burn 85 = .ok (.aload_n 0, 1) := by decide +kernel
theorem dX0_burn_86 : decode cX0_burn 86 = .ok (.getfield 30, 3) := by decide +kernel
theorem dX0_burn_89 : decode cX0_burn 89 = .ok (.getfield 139, 3) := by decide +kernel
theorem dX0_burn_92 : decode cX0_burn 92 = .ok (.ifCond .ne 15, 3) := by decide +kernel
theorem dX0_burn_95 : decode cX0_burn 95 = .ok (.aload_n 0, 1) := by decide +kernel
theorem dX0_burn_96 : decode cX0_burn 96 = .ok (.iconst 0, 1) := by decide +kernel
theorem dX0_burn_97 : decode cX0_burn 97 = .ok (.aload_n 0, 1) := by decide +kernel
theorem dX0_burn_98 : decode cX0_burn 98 = .ok (.getfield 30, 3) := by decide +kernel
theorem dX0_burn_101 : decode cX0_burn 101 = .ok (.getfield 116, 3) := by decide +kernel
theorem dX0_burn_104 : decode cX0_burn 104 = .ok (.invokevirtual 157, 3) := by decide +kernel
theorem dX0_burn_107 : decode cX0_burn 107 = .ok (.iload_n 2, 1) := by decide +kernel
theorem dX0_burn_108 : decode cX0_burn 108 = .ok (.ireturn, 1) := by decide +kernel
theorem dX0_rest_0 : decode cX0_rest 0 = .ok (.aload_n 0, 1) := by decide +kernel
theorem dX0_rest_1 : decode cX0_rest 1 = .ok (.getfield 30, 3) := by decide +kernel
theorem dX0_rest_4 : decode cX0_rest 4 = .ok (.iconst 0, 1) := by decide +kernel
theorem dX0_rest_5 : decode cX0_rest 5 = .ok (.putfield 139, 3) := by decide +kernel
theorem dX0_rest_8 : decode cX0_rest 8 = .ok (.aload_n 0, 1) := by decide +kernel
theorem dX0_rest_9 : decode cX0_rest 9 = .ok (.getfield 30, 3) := by decide +kernel
theorem dX0_rest_12 : decode cX0_rest 12 = .ok (.aload_n 0, 1) := by decide +kernel
theorem dX0_rest_13 : decode cX0_rest 13 = .ok (.getfield 30, 3) := by decide +kernel
theorem dX0_rest_16 : decode cX0_rest 16 = .ok (.getfield 116, 3) := by decide +kernel
theorem dX0_rest_19 : decode cX0_rest 19 = .ok (.invokevirtual 119, 3) := by decide +kernel
theorem dX0_rest_22 : decode cX0_rest 22 = .ok (.invokevirtual 160, 3) := by decide +kernel
theorem dX0_rest_25 : decode cX0_rest 25 = .ok (.ifCond .eq 4, 3) := by decide +kernel
theorem dX0_rest_28 : decode cX0_rest 28 = .ok (.return_, 1) := by decide +kernel
theorem dX0_rest_29 : decode cX0_rest 29 = .ok (.aload_n 0, 1) := by decide +kernel
theorem dX0_rest_30 : decode cX0_rest 30 = .ok (.getfield 30, 3) := by decide +kernel
theorem dX0_rest_33 : decode cX0_rest 33 = .ok (.invokevirtual 132, 3) := by decide +kernel
theorem dX0_rest_36 : decode cX0_rest 36 = .ok (.istore_n 1, 1) := by decide +kernel
theorem dX0_rest_37 : decode cX0_rest 37 = .ok (.aload_n 0, 1) := by decide +kernel
theorem dX0_rest_38 : decode cX0_rest 38 = .ok (.getfield 30, 3) := by decide +kernel
theorem dX0_rest_41 : decode cX0_rest 41 = .ok (.iload_n 1, 1) := by decide +kernel
theorem dX0_rest_42 : decode cX0_rest 42 = .ok (.invokevirtual 119, 3) := by decide +kernel
theorem dX0_rest_45 : decode cX0_rest 45 = .ok (.invokevirtual 160, 3) := by decide +kernel
theorem dX0_rest_48 : decode cX0_rest 48 = .ok (.ifCond .eq 9, 3) := by decide +kernel
theorem dX0_rest_51 : decode cX0_rest 51 = .ok (.aload_n 0, 1) := by decide +kernel
theorem dX0_rest_52 : decode cX0_rest 52 = .ok (.iconst 3, 1) := by decide +kernel
theorem dX0_rest_53 : decode cX0_rest 53 = .ok (.iload_n 1, 1) := by decide +kernel
theorem dX0_rest_54 : decode cX0_rest 54 = .ok (.invokevirtual 135, 3) := by decide +kernel
theorem dX0_rest_57 : decode cX0_rest 57 = .ok (.return_, 1) := by decide +kernel
theorem dX0_turnFor_0 : decode cX0_turnFor 0 = .ok (.aload_n 0, 1) := by decide +kernel
theorem dX0_turnFor_1 : decode cX0_turnFor 1 = .ok (.getfield 30, 3) := by decide +kernel
theorem dX0_turnFor_4 : decode cX0_turnFor 4 = .ok (.iload_n 2, 1) := by decide +kernel
theorem dX0_turnFor_5 : decode cX0_turnFor 5 = .ok (.aload_n 0, 1) := by decide +kernel
theorem dX0_turnFor_6 : decode cX0_turnFor 6 = .ok (.getfield 13, 3) := by decide +kernel
theorem dX0_turnFor_9 : decode cX0_turnFor 9 = .ok (.iconst 2, 1) := by decide +kernel
theorem dX0_turnFor_10 : decode cX0_turnFor 10 = .ok (.invokestatic 149, 3) := by decide +kernel
theorem dX0_turnFor_13 : decode cX0_turnFor 13 = .ok (.invokevirtual 163, 3) := by decide +kernel
theorem dX0_turnFor_16 : decode cX0_turnFor 16 = .ok (.aload_n 0, 1) := by decide +kernel
theorem dX0_turnFor_17 : decode cX0_turnFor 17 = .ok (.iload_n 1, 1) := by decide +kernel
theorem dX0_turnFor_18 : decode cX0_turnFor 18 = .ok (.iload_n 2, 1) := by decide +kernel
theorem dX0_turnFor_19 : decode cX0_turnFor 19 = .ok (.invokevirtual 157, 3) := by decide +kernel
theorem dX0_turnFor_22 : decode cX0_turnFor 22 = .ok (.return_, 1) := by decide +kernel
theorem dX0_noteChange_0 : decode cX0_noteChange 0 = .ok (.aload_n 0, 1) := by decide +kernel
theorem dX0_noteChange_1 : decode cX0_noteChange 1 = .ok (.getfield 44, 3) := by decide +kernel
theorem dX0_noteChange_4 : decode cX0_noteChange 4 = .ok (.iload_n 1, 1) := by decide +kernel
theorem dX0_noteChange_5 : decode cX0_noteChange 5 = .ok (.iload_n 2, 1) := by decide +kernel
theorem dX0_noteChange_6 : decode cX0_noteChange 6 = .ok (.aload_n 0, 1) := by decide +kernel
theorem dX0_noteChange_7 : decode cX0_noteChange 7 = .ok (.getfield 65, 3) := by decide +kernel
theorem dX0_noteChange_10 : decode cX0_noteChange 10 = .ok (.invokevirtual 166, 3) := by decide +kernel
theorem dX0_noteChange_13 : decode cX0_noteChange 13 = .ok (.aload_n 0, 1) := by decide +kernel
theorem dX0_noteChange_14 : decode cX0_noteChange 14 = .ok (.dup, 1) := by decide +kernel
theorem dX0_noteChange_15 : decode cX0_noteChange 15 = .ok (.getfield 74, 3) := by decide +kernel
theorem dX0_noteChange_18 : decode cX0_noteChange 18 = .ok (.iconst 1, 1) := by decide +kernel
theorem dX0_noteChange_19 : decode cX0_noteChange 19 = .ok (.iadd, 1) := by decide +kernel
theorem dX0_noteChange_20 : decode cX0_noteChange 20 = .ok (.putfield 74, 3) := by decide +kernel
theorem dX0_noteChange_23 : decode cX0_noteChange 23 = .ok (.return_, 1) := by decide +kernel
theorem dX0_countNightTick_0 : decode cX0_countNightTick 0 = .ok (.iload_n 1, 1) := by decide +kernel
theorem dX0_countNightTick_1 : decode cX0_countNightTick 1 = .ok (.ifCond .eq 9, 3) := by decide +kernel
theorem dX0_countNightTick_4 : decode cX0_countNightTick 4 = .ok (.aload_n 0, 1) := by decide +kernel
theorem dX0_countNightTick_5 : decode cX0_countNightTick 5 = .ok (.iconst 0, 1) := by decide +kernel
theorem dX0_countNightTick_6 : decode cX0_countNightTick 6 = .ok (.putfield 80, 3) := by decide +kernel
theorem dX0_countNightTick_9 : decode cX0_countNightTick 9 = .ok (.return_, 1) := by decide +kernel
theorem dX0_countNightTick_10 : decode cX0_countNightTick 10 = .ok (.aload_n 0, 1) := by decide +kernel
theorem dX0_countNightTick_11 : decode cX0_countNightTick 11 = .ok (.dup, 1) := by decide +kernel
theorem dX0_countNightTick_12 : decode cX0_countNightTick 12 = .ok (.getfield 68, 3) := by decide +kernel
theorem dX0_countNightTick_15 : decode cX0_countNightTick 15 = .ok (.iconst 1, 1) := by decide +kernel
theorem dX0_countNightTick_16 : decode cX0_countNightTick 16 = .ok (.iadd, 1) := by decide +kernel
theorem dX0_countNightTick_17 : decode cX0_countNightTick 17 = .ok (.putfield 68, 3) := by decide +kernel
theorem dX0_countNightTick_20 : decode cX0_countNightTick 20 = .ok (.aload_n 0, 1) := by decide +kernel
theorem dX0_countNightTick_21 : decode cX0_countNightTick 21 = .ok (.dup, 1) := by decide +kernel
theorem dX0_countNightTick_22 : decode cX0_countNightTick 22 = .ok (.getfield 80, 3) := by decide +kernel
theorem dX0_countNightTick_25 : decode cX0_countNightTick 25 = .ok (.iconst 1, 1) := by decide +kernel
theorem dX0_countNightTick_26 : decode cX0_countNightTick 26 = .ok (.iadd, 1) := by decide +kernel
theorem dX0_countNightTick_27 : decode cX0_countNightTick 27 = .ok (.putfield 80, 3) := by decide +kernel
theorem dX0_countNightTick_30 : decode cX0_countNightTick 30 = .ok (.aload_n 0, 1) := by decide +kernel
theorem dX0_countNightTick_31 : decode cX0_countNightTick 31 = .ok (.aload_n 0, 1) := by decide +kernel
theorem dX0_countNightTick_32 : decode cX0_countNightTick 32 = .ok (.getfield 71, 3) := by decide +kernel
theorem dX0_countNightTick_35 : decode cX0_countNightTick 35 = .ok (.aload_n 0, 1) := by decide +kernel
theorem dX0_countNightTick_36 : decode cX0_countNightTick 36 = .ok (.getfield 80, 3) := by decide +kernel
theorem dX0_countNightTick_39 : decode cX0_countNightTick 39 = .ok (.invokestatic 170, 3) := by decide +kernel
theorem dX0_countNightTick_42 : decode cX0_countNightTick 42 = .ok (.putfield 71, 3) := by decide +kernel
theorem dX0_countNightTick_45 : decode cX0_countNightTick 45 = .ok (.return_, 1) := by decide +kernel
theorem dX0_receiveBoat_0 : decode cX0_receiveBoat 0 = .ok (.aload_n 0, 1) := by decide +kernel
theorem dX0_receiveBoat_1 : decode cX0_receiveBoat 1 = .ok (.getfield 37, 3) := by decide +kernel
theorem dX0_receiveBoat_4 : decode cX0_receiveBoat 4 = .ok (.aload_n 0, 1) := by decide +kernel
theorem dX0_receiveBoat_5 : decode cX0_receiveBoat 5 = .ok (.getfield 65, 3) := by decide +kernel
theorem dX0_receiveBoat_8 : decode cX0_receiveBoat 8 = .ok (.invokevirtual 173, 3) := by decide +kernel
theorem dX0_receiveBoat_11 : decode cX0_receiveBoat 11 = .ok (.istore_n 1, 1) := by decide +kernel
theorem dX0_receiveBoat_12 : decode cX0_receiveBoat 12 = .ok (.iload_n 1, 1) := by decide +kernel
theorem dX0_receiveBoat_13 : decode cX0_receiveBoat 13 = .ok (.bipush (-5), 2) := by decide +kernel
theorem dX0_receiveBoat_15 : decode cX0_receiveBoat 15 = .ok (.if_icmp .ne 4, 3) := by decide +kernel
theorem dX0_receiveBoat_18 : decode cX0_receiveBoat 18 = .ok (.return_, 1) := by decide +kernel
theorem dX0_receiveBoat_19 : decode cX0_receiveBoat 19 = .ok (.aload_n 0, 1) := by decide +kernel
theorem dX0_receiveBoat_20 : decode cX0_receiveBoat 20 = .ok (.getfield 37, 3) := by decide +kernel
theorem dX0_receiveBoat_23 : decode cX0_receiveBoat 23 = .ok (.getfield 177, 3) := by decide +kernel
theorem dX0_receiveBoat_26 : decode cX0_receiveBoat 26 = .ok (.iload_n 1, 1) := by decide +kernel
theorem dX0_receiveBoat_27 : decode cX0_receiveBoat 27 = .ok (.invokestatic 149, 3) := by decide +kernel
theorem dX0_receiveBoat_30 : decode cX0_receiveBoat 30 = .ok (.istore_n 2, 1) := by decide +kernel
theorem dX0_receiveBoat_31 : decode cX0_receiveBoat 31 = .ok (.aload_n 0, 1) := by decide +kernel
theorem dX0_receiveBoat_32 : decode cX0_receiveBoat 32 = .ok (.getfield 24, 3) := by decide +kernel
theorem dX0_receiveBoat_35 : decode cX0_receiveBoat 35 = .ok (.iload_n 2, 1) := by decide +kernel
theorem dX0_receiveBoat_36 : decode cX0_receiveBoat 36 = .ok (.invokestatic 149, 3) := by decide +kernel
theorem dX0_receiveBoat_39 : decode cX0_receiveBoat 39 = .ok (.aload_n 0, 1) := by decide +kernel
theorem dX0_receiveBoat_40 : decode cX0_receiveBoat 40 = .ok (.getfield 37, 3) := by decide +kernel
theorem dX0_receiveBoat_43 : decode cX0_receiveBoat 43 = .ok (.getfield 180, 3) := by decide +kernel
theorem dX0_receiveBoat_46 : decode cX0_receiveBoat 46 = .ok (.iload_n 1, 1) := by decide +kernel
theorem dX0_receiveBoat_47 : decode cX0_receiveBoat 47 = .ok (.invokestatic 149, 3) := by decide +kernel
theorem dX0_receiveBoat_50 : decode cX0_receiveBoat 50 = .ok (.iadd, 1) := by decide +kernel
theorem dX0_receiveBoat_51 : decode cX0_receiveBoat 51 = .ok (.istore_n 3, 1) := by decide +kernel
theorem dX0_receiveBoat_52 : decode cX0_receiveBoat 52 = .ok (.aload_n 0, 1) := by decide +kernel
theorem dX0_receiveBoat_53 : decode cX0_receiveBoat 53 = .ok (.getfield 24, 3) := by decide +kernel
theorem dX0_receiveBoat_56 : decode cX0_receiveBoat 56 = .ok (.iload_n 2, 1) := by decide +kernel
theorem dX0_receiveBoat_57 : decode cX0_receiveBoat 57 = .ok (.iload_n 3, 1) := by decide +kernel
theorem dX0_receiveBoat_58 : decode cX0_receiveBoat 58 = .ok (.bipush 99, 2) := by decide +kernel
theorem dX0_receiveBoat_60 : decode cX0_receiveBoat 60 = .ok (.invokestatic 183, 3) := by decide +kernel
theorem dX0_receiveBoat_63 : decode cX0_receiveBoat 63 = .ok (.invokestatic 186, 3) := by decide +kernel
theorem dX0_receiveBoat_66 : decode cX0_receiveBoat 66 = .ok (.aload_n 0, 1) := by decide +kernel
theorem dX0_receiveBoat_67 : decode cX0_receiveBoat 67 = .ok (.invokevirtual 190, 3) := by decide +kernel
theorem dX0_receiveBoat_70 : decode cX0_receiveBoat 70 = .ok (.aload_n 0, 1) := by decide +kernel
theorem dX0_receiveBoat_71 : decode cX0_receiveBoat 71 = .ok (.getfield 44, 3) := by decide +kernel
theorem dX0_receiveBoat_74 : decode cX0_receiveBoat 74 = .ok (.iconst 4, 1) := by decide +kernel
theorem dX0_receiveBoat_75 : decode cX0_receiveBoat 75 = .ok (.aload_n 0, 1) := by decide +kernel
theorem dX0_receiveBoat_76 : decode cX0_receiveBoat 76 = .ok (.invokevirtual 193, 3) := by decide +kernel
theorem dX0_receiveBoat_79 : decode cX0_receiveBoat 79 = .ok (.aload_n 0, 1) := by decide +kernel
theorem dX0_receiveBoat_80 : decode cX0_receiveBoat 80 = .ok (.getfield 65, 3) := by decide +kernel
theorem dX0_receiveBoat_83 : decode cX0_receiveBoat 83 = .ok (.invokevirtual 166, 3) := by decide +kernel
theorem dX0_receiveBoat_86 : decode cX0_receiveBoat 86 = .ok (.aload_n 0, 1) := by decide +kernel
theorem dX0_receiveBoat_87 : decode cX0_receiveBoat 87 = .ok (.dup, 1) := by decide +kernel
theorem dX0_receiveBoat_88 : decode cX0_receiveBoat 88 = .ok (.getfield 77, 3) := by decide +kernel
theorem dX0_receiveBoat_91 : decode cX0_receiveBoat 91 = .ok (.iconst 1, 1) := by decide +kernel
theorem dX0_receiveBoat_92 : decode cX0_receiveBoat 92 = .ok (.iadd, 1) := by decide +kernel
theorem dX0_receiveBoat_93 : decode cX0_receiveBoat 93 = .ok (.putfield 77, 3) := by decide +kernel
theorem dX0_receiveBoat_96 : decode cX0_receiveBoat 96 = .ok (.return_, 1) := by decide +kernel
theorem dX0_takeOldLampsOut_0 : decode cX0_takeOldLampsOut 0 = .ok (.aload_n 0, 1) := by decide +kernel
theorem dX0_takeOldLampsOut_1 : decode cX0_takeOldLampsOut 1 = .ok (.getfield 13, 3) := by decide +kernel
theorem dX0_takeOldLampsOut_4 : decode cX0_takeOldLampsOut 4 = .ok (.iconst 3, 1) := by decide +kernel
theorem dX0_takeOldLampsOut_5 : decode cX0_takeOldLampsOut 5 = .ok (.invokestatic 149, 3) := by decide +kernel
theorem dX0_takeOldLampsOut_8 : decode cX0_takeOldLampsOut 8 = .ok (.iconst 1, 1) := by decide +kernel
theorem dX0_takeOldLampsOut_9 : decode cX0_takeOldLampsOut 9 = .ok (.if_icmp .ne 7, 3) := by decide +kernel
theorem dX0_takeOldLampsOut_12 : decode cX0_takeOldLampsOut 12 = .ok (.iconst 1, 1) := by decide +kernel
theorem dX0_takeOldLampsOut_13 : decode cX0_takeOldLampsOut 13 = .ok (.goto 4, 3) := by decide +kernel
theorem dX0_takeOldLampsOut_16 : decode cX0_takeOldLampsOut 16 = .ok (.iconst 0, 1) := by decide +kernel
theorem dX0_takeOldLampsOut_17 : decode cX0_takeOldLampsOut 17 = .ok (.istore_n 1, 1) := by decide +kernel
theorem dX0_takeOldLampsOut_18 : decode cX0_takeOldLampsOut 18 = .ok (.iconst 0, 1) := by decide +kernel
theorem dX0_takeOldLampsOut_19 : decode cX0_takeOldLampsOut 19 = .ok (.istore_n 2, 1) := by decide +kernel
theorem dX0_takeOldLampsOut_20 : decode cX0_takeOldLampsOut 20 = .ok (.iload_n 2, 1) := by decide +kernel
theorem dX0_takeOldLampsOut_21 : decode cX0_takeOldLampsOut 21 = .ok (.bipush 6, 2) := by decide +kernel
theorem dX0_takeOldLampsOut_23 : decode cX0_takeOldLampsOut 23 = .ok (.if_icmp .ge 63, 3) := by decide +kernel
theorem dX0_takeOldLampsOut_26 : decode cX0_takeOldLampsOut 26 = .ok (.aload_n 0, 1) := by decide +kernel
theorem dX0_takeOldLampsOut_27 : decode cX0_takeOldLampsOut 27 = .ok (.getfield 30, 3) := by decide +kernel
theorem dX0_takeOldLampsOut_30 : decode cX0_takeOldLampsOut 30 = .ok (.iload_n 2, 1) := by decide +kernel
theorem dX0_takeOldLampsOut_31 : decode cX0_takeOldLampsOut 31 = .ok (.invokevirtual 119, 3) := by decide +kernel
theorem dX0_takeOldLampsOut_34 : decode cX0_takeOldLampsOut 34 = .ok (.astore_n 3, 1) := by decide +kernel
theorem dX0_takeOldLampsOut_35 : decode cX0_takeOldLampsOut 35 = .ok (.aload_n 3, 1) := by decide +kernel
theorem dX0_takeOldLampsOut_36 : decode cX0_takeOldLampsOut 36 = .ok (.invokevirtual 146, 3) := by decide +kernel
theorem dX0_takeOldLampsOut_39 : decode cX0_takeOldLampsOut 39 = .ok (.ifCond .ne 14, 3) := by decide +kernel
theorem dX0_takeOldLampsOut_42 : decode cX0_takeOldLampsOut 42 = .ok (.iload_n 1, 1) := by decide +kernel
theorem dX0_takeOldLampsOut_43 : decode cX0_takeOldLampsOut 43 = .ok (.ifCond .eq 14, 3) := by decide +kernel
theorem dX0_takeOldLampsOut_46 : decode cX0_takeOldLampsOut 46 = .ok (.aload_n 3, 1) := by decide +kernel
theorem dX0_takeOldLampsOut_47 : decode cX0_takeOldLampsOut 47 = .ok (.getfield 196, 3) := by decide +kernel
theorem dX0_takeOldLampsOut_50 : decode cX0_takeOldLampsOut 50 = .ok (.ifCond .eq 7, 3) := by decide +kernel
theorem dX0_takeOldLampsOut_53 : decode cX0_takeOldLampsOut 53 = .ok (.iconst 1, 1) := by decide +kernel
theorem dX0_takeOldLampsOut_54 : decode cX0_takeOldLampsOut 54 = .ok (.goto 4, 3) := by decide +kernel
theorem dX0_takeOldLampsOut_57 : decode cX0_takeOldLampsOut 57 = .ok (.iconst 0, 1) := by decide +kernel
theorem dX0_takeOldLampsOut_58 : decode cX0_takeOldLampsOut 58 = .ok (.istore 4, 2) := by decide +kernel
theorem dX0_takeOldLampsOut_60 : decode cX0_takeOldLampsOut 60 = .ok (.iload 4, 2) := by decide +kernel
theorem dX0_takeOldLampsOut_62 : decode cX0_takeOldLampsOut 62 = .ok (.ifCond .eq 18, 3) := by decide +kernel
theorem dX0_takeOldLampsOut_65 : decode cX0_takeOldLampsOut 65 = .ok (.aload_n 0, 1) := by decide +kernel
theorem dX0_takeOldLampsOut_66 : decode cX0_takeOldLampsOut 66 = .ok (.getfield 30, 3) := by decide +kernel
theorem dX0_takeOldLampsOut_69 : decode cX0_takeOldLampsOut 69 = .ok (.iload_n 2, 1) := by decide +kernel
theorem dX0_takeOldLampsOut_70 : decode cX0_takeOldLampsOut 70 = .ok (.invokevirtual 199, 3) := by decide +kernel
theorem dX0_takeOldLampsOut_73 : decode cX0_takeOldLampsOut 73 = .ok (.ifCond .ne 7, 3) := by decide +kernel
theorem dX0_takeOldLampsOut_76 : decode cX0_takeOldLampsOut 76 = .ok (.aload_n 3, 1) := by decide +kernel
theorem dX0_takeOldLampsOut_77 : decode cX0_takeOldLampsOut 77 = .ok (.invokevirtual 203, 3) := by decide +kernel
theorem dX0_takeOldLampsOut_80 : decode cX0_takeOldLampsOut 80 = .ok (.iinc 2 1, 3) := by decide +kernel
theorem dX0_takeOldLampsOut_83 : decode cX0_takeOldLampsOut 83 = .ok (.goto (-63), 3) := by decide +kernel
theorem dX0_takeOldLampsOut_86 : decode cX0_takeOldLampsOut 86 = .ok (.return_, 1) := by decide +kernel
theorem dX0_fillEmptySockets_0 : decode cX0_fillEmptySockets 0 = .ok (.iconst 0, 1) := by decide +kernel
theorem dX0_fillEmptySockets_1 : decode cX0_fillEmptySockets 1 = .ok (.istore_n 1, 1) := by decide +kernel
theorem dX0_fillEmptySockets_2 : decode cX0_fillEmptySockets 2 = .ok (.iconst 0, 1) := by decide +kernel
theorem dX0_fillEmptySockets_3 : decode cX0_fillEmptySockets 3 = .ok (.istore_n 2, 1) := by decide +kernel
theorem dX0_fillEmptySockets_4 : decode cX0_fillEmptySockets 4 = .ok (.iload_n 2, 1) := by decide +kernel
theorem dX0_fillEmptySockets_5 : decode cX0_fillEmptySockets 5 = .ok (.bipush 6, 2) := by decide +kernel
theorem dX0_fillEmptySockets_7 : decode cX0_fillEmptySockets 7 = .ok (.if_icmp .ge 69, 3) := by decide +kernel
theorem dX0_fillEmptySockets_10 : decode cX0_fillEmptySockets 10 = .ok (.aload_n 0, 1) := by decide +kernel
theorem dX0_fillEmptySockets_11 : decode cX0_fillEmptySockets 11 = .ok (.getfield 30, 3) := by decide +kernel
theorem dX0_fillEmptySockets_14 : decode cX0_fillEmptySockets 14 = .ok (.iload_n 2, 1) := by decide +kernel
theorem dX0_fillEmptySockets_15 : decode cX0_fillEmptySockets 15 = .ok (.invokevirtual 119, 3) := by decide +kernel
theorem dX0_fillEmptySockets_18 : decode cX0_fillEmptySockets 18 = .ok (.astore_n 3, 1) := by decide +kernel
theorem dX0_fillEmptySockets_19 : decode cX0_fillEmptySockets 19 = .ok (.aload_n 0, 1) := by decide +kernel
theorem dX0_fillEmptySockets_20 : decode cX0_fillEmptySockets 20 = .ok (.invokevirtual 206, 3) := by decide +kernel
theorem dX0_fillEmptySockets_23 : decode cX0_fillEmptySockets 23 = .ok (.istore 4, 2) := by decide +kernel
theorem dX0_fillEmptySockets_25 : decode cX0_fillEmptySockets 25 = .ok (.aload_n 3, 1) := by decide +kernel
theorem dX0_fillEmptySockets_26 : decode cX0_fillEmptySockets 26 = .ok (.invokevirtual 209, 3) := by decide +kernel
theorem dX0_fillEmptySockets_29 : decode cX0_fillEmptySockets 29 = .ok (.ifCond .ne 41, 3) := by decide +kernel
theorem dX0_fillEmptySockets_32 : decode cX0_fillEmptySockets 32 = .ok (.iload 4, 2) := by decide +kernel
theorem dX0_fillEmptySockets_34 : decode cX0_fillEmptySockets 34 = .ok (.bipush (-5), 2) := by decide +kernel
theorem dX0_fillEmptySockets_36 : decode cX0_fillEmptySockets 36 = .ok (.if_icmp .eq 34, 3) := by decide +kernel
theorem dX0_fillEmptySockets_39 : decode cX0_fillEmptySockets 39 = .ok (.aload_n 0, 1) := by decide +kernel
theorem dX0_fillEmptySockets_40 : decode cX0_fillEmptySockets 40 = .ok (.getfield 24, 3) := by decide +kernel
theorem dX0_fillEmptySockets_43 : decode cX0_fillEmptySockets 43 = .ok (.iload 4, 2) := by decide +kernel
theorem dX0_fillEmptySockets_45 : decode cX0_fillEmptySockets 45 = .ok (.aload_n 0, 1) := by decide +kernel
theorem dX0_fillEmptySockets_46 : decode cX0_fillEmptySockets 46 = .ok (.getfield 24, 3) := by decide +kernel
theorem dX0_fillEmptySockets_49 : decode cX0_fillEmptySockets 49 = .ok (.iload 4, 2) := by decide +kernel
theorem dX0_fillEmptySockets_51 : decode cX0_fillEmptySockets 51 = .ok (.invokestatic 149, 3) := by decide +kernel
theorem dX0_fillEmptySockets_54 : decode cX0_fillEmptySockets 54 = .ok (.iconst 1, 1) := by decide +kernel
theorem dX0_fillEmptySockets_55 : decode cX0_fillEmptySockets 55 = .ok (.isub, 1) := by decide +kernel
theorem dX0_fillEmptySockets_56 : decode cX0_fillEmptySockets 56 = .ok (.invokestatic 186, 3) := by decide +kernel
theorem dX0_fillEmptySockets_59 : decode cX0_fillEmptySockets 59 = .ok (.aload_n 3, 1) := by decide +kernel
theorem dX0_fillEmptySockets_60 : decode cX0_fillEmptySockets 60 = .ok (.iload 4, 2) := by decide +kernel
theorem dX0_fillEmptySockets_62 : decode cX0_fillEmptySockets 62 = .ok (.bipush 100, 2) := by decide +kernel
theorem dX0_fillEmptySockets_64 : decode cX0_fillEmptySockets 64 = .ok (.invokevirtual 212, 3) := by decide +kernel
theorem dX0_fillEmptySockets_67 : decode cX0_fillEmptySockets 67 = .ok (.iinc 1 1, 3) := by decide +kernel
theorem dX0_fillEmptySockets_70 : decode cX0_fillEmptySockets 70 = .ok (.iinc 2 1, 3) := by decide +kernel
theorem dX0_fillEmptySockets_73 : decode cX0_fillEmptySockets 73 = .ok (.goto (-69), 3) := by decide +kernel
theorem dX0_fillEmptySockets_76 : decode cX0_fillEmptySockets 76 = .ok (.iload_n 1, 1) := by decide +kernel
theorem dX0_fillEmptySockets_77 : decode cX0_fillEmptySockets 77 = .ok (.ireturn, 1) := by decide +kernel
theorem dX0_lowestKindInStock_0 : decode cX0_lowestKindInStock 0 = .ok (.iconst 0, 1) := by decide +kernel
theorem dX0_lowestKindInStock_1 : decode cX0_lowestKindInStock 1 = .ok (.istore_n 1, 1) := by decide +kernel
theorem dX0_lowestKindInStock_2 : decode cX0_lowestKindInStock 2 = .ok (.iload_n 1, 1) := by decide +kernel
theorem dX0_lowestKindInStock_3 : decode cX0_lowestKindInStock 3 = .ok (.iconst 3, 1) := by decide +kernel
theorem dX0_lowestKindInStock_4 : decode cX0_lowestKindInStock 4 = .ok (.if_icmp .ge 22, 3) := by decide +kernel
theorem dX0_lowestKindInStock_7 : decode cX0_lowestKindInStock 7 = .ok (.aload_n 0, 1) := by decide +kernel
theorem dX0_lowestKindInStock_8 : decode cX0_lowestKindInStock 8 = .ok (.getfield 24, 3) := by decide +kernel
theorem dX0_lowestKindInStock_11 : decode cX0_lowestKindInStock 11 = .ok (.iload_n 1, 1) := by decide +kernel
theorem dX0_lowestKindInStock_12 : decode cX0_lowestKindInStock 12 = .ok (.invokestatic 149, 3) := by decide +kernel
theorem dX0_lowestKindInStock_15 : decode cX0_lowestKindInStock 15 = .ok (.ifCond .le 5, 3) := by decide +kernel
theorem dX0_lowestKindInStock_18 : decode cX0_lowestKindInStock 18 = .ok (.iload_n 1, 1) := by decide +kernel
theorem dX0_lowestKindInStock_19 : decode cX0_lowestKindInStock 19 = .ok (.ireturn, 1) := by decide +kernel
theorem dX0_lowestKindInStock_20 : decode cX0_lowestKindInStock 20 = .ok (.iinc 1 1, 3) := by decide +kernel
theorem dX0_lowestKindInStock_23 : decode cX0_lowestKindInStock 23 = .ok (.goto (-21), 3) := by decide +kernel
theorem dX0_lowestKindInStock_26 : decode cX0_lowestKindInStock 26 = .ok (.bipush (-5), 2) := by decide +kernel
theorem dX0_lowestKindInStock_28 : decode cX0_lowestKindInStock 28 = .ok (.ireturn, 1) := by decide +kernel
theorem dX1_init_0 : decode cX1_init 0 = .ok (.aload_n 0, 1) := by decide +kernel
theorem dX1_init_1 : decode cX1_init 1 = .ok (.invokespecial 3, 3) := by decide +kernel
theorem dX1_init_4 : decode cX1_init 4 = .ok (.aload_n 0, 1) := by decide +kernel
theorem dX1_init_5 : decode cX1_init 5 = .ok (.bipush 10, 2) := by decide +kernel
theorem dX1_init_7 : decode cX1_init 7 = .ok (.newarray .int, 2) := by decide +kernel
theorem dX1_init_9 : decode cX1_init 9 = .ok (.putfield 9, 3) := by decide +kernel
theorem dX1_init_12 : decode cX1_init 12 = .ok (.aload_n 0, 1) := by decide +kernel
theorem dX1_init_13 : decode cX1_init 13 = .ok (.bipush 10, 2) := by decide +kernel
theorem dX1_init_15 : decode cX1_init 15 = .ok (.newarray .int, 2) := by decide +kernel
theorem dX1_init_17 : decode cX1_init 17 = .ok (.putfield 15, 3) := by decide +kernel
theorem dX1_init_20 : decode cX1_init 20 = .ok (.aload_n 0, 1) := by decide +kernel
theorem dX1_init_21 : decode cX1_init 21 = .ok (.bipush 10, 2) := by decide +kernel
theorem dX1_init_23 : decode cX1_init 23 = .ok (.newarray .int, 2) := by decide +kernel
theorem dX1_init_25 : decode cX1_init 25 = .ok (.putfield 18, 3) := by decide +kernel
theorem dX1_init_28 : decode cX1_init 28 = .ok (.return_, 1) := by decide +kernel
theorem dX1_copyFrom_0 : decode cX1_copyFrom 0 = .ok (.aload_n 1, 1) := by decide +kernel
theorem dX1_copyFrom_1 : decode cX1_copyFrom 1 = .ok (.getfield 9, 3) := by decide +kernel
theorem dX1_copyFrom_4 : decode cX1_copyFrom 4 = .ok (.aload_n 0, 1) := by decide +kernel
theorem dX1_copyFrom_5 : decode cX1_copyFrom 5 = .ok (.getfield 9, 3) := by decide +kernel
theorem dX1_copyFrom_8 : decode cX1_copyFrom 8 = .ok (.invokestatic 21, 3) := by decide +kernel
theorem dX1_copyFrom_11 : decode cX1_copyFrom 11 = .ok (.aload_n 1, 1) := by decide +kernel
theorem dX1_copyFrom_12 : decode cX1_copyFrom 12 = .ok (.getfield 15, 3) := by decide +kernel
theorem dX1_copyFrom_15 : decode cX1_copyFrom 15 = .ok (.aload_n 0, 1) := by decide +kernel
theorem dX1_copyFrom_16 : decode cX1_copyFrom 16 = .ok (.getfield 15, 3) := by decide +kernel
theorem dX1_copyFrom_19 : decode cX1_copyFrom 19 = .ok (.invokestatic 21, 3) := by decide +kernel
theorem dX1_copyFrom_22 : decode cX1_copyFrom 22 = .ok (.aload_n 1, 1) := by decide +kernel
theorem dX1_copyFrom_23 : decode cX1_copyFrom 23 = .ok (.getfield 18, 3) := by decide +kernel
theorem dX1_copyFrom_26 : decode cX1_copyFrom 26 = .ok (.aload_n 0, 1) := by decide +kernel
theorem dX1_copyFrom_27 : decode cX1_copyFrom 27 = .ok (.getfield 18, 3) := by decide +kernel
theorem dX1_copyFrom_30 : decode cX1_copyFrom 30 = .ok (.invokestatic 21, 3) := by decide +kernel
theorem dX1_copyFrom_33 : decode cX1_copyFrom 33 = .ok (.aload_n 0, 1) := by decide +kernel
theorem dX1_copyFrom_34 : decode cX1_copyFrom 34 = .ok (.aload_n 1, 1) := by decide +kernel
theorem dX1_copyFrom_35 : decode cX1_copyFrom 35 = .ok (.getfield 27, 3) := by decide +kernel
theorem dX1_copyFrom_38 : decode cX1_copyFrom 38 = .ok (.putfield 27, 3) := by decide +kernel
theorem dX1_copyFrom_41 : decode cX1_copyFrom 41 = .ok (.aload_n 0, 1) := by decide +kernel
theorem dX1_copyFrom_42 : decode cX1_copyFrom 42 = .ok (.aload_n 1, 1) := by decide +kernel
theorem dX1_copyFrom_43 : decode cX1_copyFrom 43 = .ok (.getfield 31, 3) := by decide +kernel
theorem dX1_copyFrom_46 : decode cX1_copyFrom 46 = .ok (.putfield 31, 3) := by decide +kernel
theorem dX1_copyFrom_49 : decode cX1_copyFrom 49 = .ok (.return_, 1) := by decide +kernel
theorem dX1_note_0 : decode cX1_note 0 = .ok (.aload_n 0, 1) := by decide +kernel
theorem dX1_note_1 : decode cX1_note 1 = .ok (.getfield 9, 3) := by decide +kernel
theorem dX1_note_4 : decode cX1_note 4 = .ok (.aload_n 0, 1) := by decide +kernel
theorem dX1_note_5 : decode cX1_note 5 = .ok (.getfield 31, 3) := by decide +kernel
theorem dX1_note_8 : decode cX1_note 8 = .ok (.iload_n 1, 1) := by decide +kernel
theorem dX1_note_9 : decode cX1_note 9 = .ok (.invokestatic 34, 3) := by decide +kernel
theorem dX1_note_12 : decode cX1_note 12 = .ok (.aload_n 0, 1) := by decide +kernel
theorem dX1_note_13 : decode cX1_note 13 = .ok (.getfield 15, 3) := by decide +kernel
theorem dX1_note_16 : decode cX1_note 16 = .ok (.aload_n 0, 1) := by decide +kernel
theorem dX1_note_17 : decode cX1_note 17 = .ok (.getfield 31, 3) := by decide +kernel
theorem dX1_note_20 : decode cX1_note 20 = .ok (.iload_n 2, 1) := by decide +kernel
theorem dX1_note_21 : decode cX1_note 21 = .ok (.invokestatic 34, 3) := by decide +kernel
theorem dX1_note_24 : decode cX1_note 24 = .ok (.aload_n 0, 1) := by decide +kernel
theorem dX1_note_25 : decode cX1_note 25 = .ok (.getfield 18, 3) := by decide +kernel
theorem dX1_note_28 : decode cX1_note 28 = .ok (.aload_n 0, 1) := by decide +kernel
theorem dX1_note_29 : decode cX1_note 29 = .ok (.getfield 31, 3) := by decide +kernel
theorem dX1_note_32 : decode cX1_note 32 = .ok (.iload_n 3, 1) := by decide +kernel
theorem dX1_note_33 : decode cX1_note 33 = .ok (.invokestatic 34, 3) := by decide +kernel
theorem dX1_note_36 : decode cX1_note 36 = .ok (.aload_n 0, 1) := by decide +kernel
theorem dX1_note_37 : decode cX1_note 37 = .ok (.aload_n 0, 1) := by decide +kernel
theorem dX1_note_38 : decode cX1_note 38 = .ok (.getfield 31, 3) := by decide +kernel
theorem dX1_note_41 : decode cX1_note 41 = .ok (.iconst 1, 1) := by decide +kernel
theorem dX1_note_42 : decode cX1_note 42 = .ok (.iadd, 1) := by decide +kernel
theorem dX1_note_43 : decode cX1_note 43 = .ok (.bipush 10, 2) := by decide +kernel
theorem dX1_note_45 : decode cX1_note 45 = .ok (.irem, 1) := by decide +kernel
theorem dX1_note_46 : decode cX1_note 46 = .ok (.putfield 31, 3) := by decide +kernel
theorem dX1_note_49 : decode cX1_note 49 = .ok (.aload_n 0, 1) := by decide +kernel
theorem dX1_note_50 : decode cX1_note 50 = .ok (.aload_n 0, 1) := by decide +kernel
theorem dX1_note_51 : decode cX1_note 51 = .ok (.getfield 27, 3) := by decide +kernel
theorem dX1_note_54 : decode cX1_note 54 = .ok (.iconst 1, 1) := by decide +kernel
theorem dX1_note_55 : decode cX1_note 55 = .ok (.iadd, 1) := by decide +kernel
theorem dX1_note_56 : decode cX1_note 56 = .ok (.bipush 10, 2) := by decide +kernel
theorem dX1_note_58 : decode cX1_note 58 = .ok (.invokestatic 38, 3) := by decide +kernel
theorem dX1_note_61 : decode cX1_note 61 = .ok (.putfield 27, 3) := by decide +kernel
theorem dX1_note_64 : decode cX1_note 64 = .ok (.return_, 1) := by decide +kernel
theorem dX1_rowBack_0 : decode cX1_rowBack 0 = .ok (.iload_n 1, 1) := by decide +kernel
theorem dX1_rowBack_1 : decode cX1_rowBack 1 = .ok (.ifCond .lt 11, 3) := by decide +kernel
theorem dX1_rowBack_4 : decode cX1_rowBack 4 = .ok (.iload_n 1, 1) := by decide +kernel
theorem dX1_rowBack_5 : decode cX1_rowBack 5 = .ok (.aload_n 0, 1) := by decide +kernel
theorem dX1_rowBack_6 : decode cX1_rowBack 6 = .ok (.getfield 27, 3) := by decide +kernel
theorem dX1_rowBack_9 : decode cX1_rowBack 9 = .ok (.if_icmp .lt 6, 3) := by decide +kernel
theorem dX1_rowBack_12 : decode cX1_rowBack 12 = .ok (.bipush (-5), 2) := by decide +kernel
theorem dX1_rowBack_14 : decode cX1_rowBack 14 = .ok (.ireturn, 1) := by decide +kernel
theorem dX1_rowBack_15 : decode cX1_rowBack 15 = .ok (.aload_n 0, 1) := by decide +kernel
theorem dX1_rowBack_16 : decode cX1_rowBack 16 = .ok (.getfield 31, 3) := by decide +kernel
theorem dX1_rowBack_19 : decode cX1_rowBack 19 = .ok (.iconst 1, 1) := by decide +kernel
theorem dX1_rowBack_20 : decode cX1_rowBack 20 = .ok (.isub, 1) := by decide +kernel
theorem dX1_rowBack_21 : decode cX1_rowBack 21 = .ok (.iload_n 1, 1) := by decide +kernel
theorem dX1_rowBack_22 : decode cX1_rowBack 22 = .ok (.isub, 1) := by decide +kernel
theorem dX1_rowBack_23 : decode cX1_rowBack 23 = .ok (.bipush 10, 2) := by decide +kernel
theorem dX1_rowBack_25 : decode cX1_rowBack 25 = .ok (.invokestatic 44, 3) := by decide +kernel
theorem dX1_rowBack_28 : decode cX1_rowBack 28 = .ok (.ireturn, 1) := by decide +kernel
theorem dX2_init_0 : decode cX2_init 0 = .ok (.aload_n 0, 1) := by decide +kernel
theorem dX2_init_1 : decode cX2_init 1 = .ok (.invokespecial 3, 3) := by decide +kernel
theorem dX2_init_4 : decode cX2_init 4 = .ok (.aload_n 0, 1) := by decide +kernel
theorem dX2_init_5 : decode cX2_init 5 = .ok (.iconst 4, 1) := by decide +kernel
theorem dX2_init_6 : decode cX2_init 6 = .ok (.anewarray 9, 3) := by decide +kernel
theorem dX2_init_9 : decode cX2_init 9 = .ok (.putfield 11, 3) := by decide +kernel
theorem dX2_init_12 : decode cX2_init 12 = .ok (.iconst 0, 1) := by decide +kernel
theorem dX2_init_13 : decode cX2_init 13 = .ok (.istore_n 1, 1) := by decide +kernel
theorem dX2_init_14 : decode cX2_init 14 = .ok (.iload_n 1, 1) := by decide +kernel
theorem dX2_init_15 : decode cX2_init 15 = .ok (.aload_n 0, 1) := by decide +kernel
theorem dX2_init_16 : decode cX2_init 16 = .ok (.getfield 11, 3) := by decide +kernel
theorem dX2_init_19 : decode cX2_init 19 = .ok (.arraylength, 1) := by decide +kernel
theorem dX2_init_20 : decode cX2_init 20 = .ok (.if_icmp .ge 22, 3) := by decide +kernel
theorem dX2_init_23 : decode cX2_init 23 = .ok (.aload_n 0, 1) := by decide +kernel
theorem dX2_init_24 : decode cX2_init 24 = .ok (.getfield 11, 3) := by decide +kernel
theorem dX2_init_27 : decode cX2_init 27 = .ok (.iload_n 1, 1) := by decide +kernel
theorem dX2_init_28 : decode cX2_init 28 = .ok (.new 9, 3) := by decide +kernel
theorem dX2_init_31 : decode cX2_init 31 = .ok (.dup, 1) := by decide +kernel
theorem dX2_init_32 : decode cX2_init 32 = .ok (.invokespecial 17, 3) := by decide +kernel
theorem dX2_init_35 : decode cX2_init 35 = .ok (.aastore, 1) := by decide +kernel
theorem dX2_init_36 : decode cX2_init 36 = .ok (.iinc 1 1, 3) := by decide +kernel
theorem dX2_init_39 : decode cX2_init 39 = .ok (.goto (-25), 3) := by decide +kernel
theorem dX2_init_42 : decode cX2_init 42 = .ok (.return_, 1) := by decide +kernel
theorem dX2_record_0 : decode cX2_record 0 = .ok (.aload_n 0, 1) := by decide +kernel
theorem dX2_record_1 : decode cX2_record 1 = .ok (.getfield 18, 3) := by decide +kernel
theorem dX2_record_4 : decode cX2_record 4 = .ok (.iconst 4, 1) := by decide +kernel
theorem dX2_record_5 : decode cX2_record 5 = .ok (.if_icmp .ne 25, 3) := by decide +kernel
theorem dX2_record_8 : decode cX2_record 8 = .ok (.aload_n 0, 1) := by decide +kernel
theorem dX2_record_9 : decode cX2_record 9 = .ok (.aload_n 0, 1) := by decide +kernel
theorem dX2_record_10 : decode cX2_record 10 = .ok (.getfield 22, 3) := by decide +kernel
theorem dX2_record_13 : decode cX2_record 13 = .ok (.iconst 1, 1) := by decide +kernel
theorem dX2_record_14 : decode cX2_record 14 = .ok (.iadd, 1) := by decide +kernel
theorem dX2_record_15 : decode cX2_record 15 = .ok (.iconst 4, 1) := by decide +kernel
theorem dX2_record_16 : decode cX2_record 16 = .ok (.irem, 1) := by decide +kernel
theorem dX2_record_17 : decode cX2_record 17 = .ok (.putfield 22, 3) := by decide +kernel
theorem dX2_record_20 : decode cX2_record 20 = .ok (.aload_n 0, 1) := by decide +kernel
theorem dX2_record_21 : decode cX2_record 21 = .ok (.dup, 1) := by decide +kernel
theorem dX2_record_22 : decode cX2_record 22 = .ok (.getfield 18, 3) := by decide +kernel
theorem dX2_record_25 : decode cX2_record 25 = .ok (.iconst 1, 1) := by decide +kernel
theorem dX2_record_26 : decode cX2_record 26 = .ok (.isub, 1) := by decide +kernel
theorem dX2_record_27 : decode cX2_record 27 = .ok (.putfield 18, 3) := by decide +kernel
theorem dX2_record_30 : decode cX2_record 30 = .ok (.aload_n 0, 1) := by decide +kernel
theorem dX2_record_31 : decode cX2_record 31 = .ok (.invokevirtual 25, 3) := by decide +kernel
theorem dX2_record_34 : decode cX2_record 34 = .ok (.astore_n 2, 1) := by decide +kernel
theorem dX2_record_35 : decode cX2_record 35 = .ok (.aload_n 2, 1) := by decide +kernel
theorem dX2_record_36 : decode cX2_record 36 = .ok (.ifnull 8, 3) := by decide +kernel
theorem dX2_record_39 : decode cX2_record 39 = .ok (.aload_n 2, 1) := by decide +kernel
theorem dX2_record_40 : decode cX2_record 40 = .ok (.aload_n 1, 1) := by decide +kernel
theorem dX2_record_41 : decode cX2_record 41 = .ok (.invokevirtual 29, 3) := by decide +kernel
theorem dX2_record_44 : decode cX2_record 44 = .ok (.aload_n 0, 1) := by decide +kernel
theorem dX2_record_45 : decode cX2_record 45 = .ok (.dup, 1) := by decide +kernel
theorem dX2_record_46 : decode cX2_record 46 = .ok (.getfield 18, 3) := by decide +kernel
theorem dX2_record_49 : decode cX2_record 49 = .ok (.iconst 1, 1) := by decide +kernel
theorem dX2_record_50 : decode cX2_record 50 = .ok (.iadd, 1) := by decide +kernel
theorem dX2_record_51 : decode cX2_record 51 = .ok (.putfield 18, 3) := by decide +kernel
theorem dX2_record_54 : decode cX2_record 54 = .ok (.return_, 1) := by decide +kernel
theorem dX2_takeBackInto_0 : decode cX2_takeBackInto 0 = .ok (.aload_n 0, 1) := by decide +kernel
theorem dX2_takeBackInto_1 : decode cX2_takeBackInto 1 = .ok (.dup, 1) := by decide +kernel
theorem dX2_takeBackInto_2 : decode cX2_takeBackInto 2 = .ok (.getfield 18, 3) := by decide +kernel
theorem dX2_takeBackInto_5 : decode cX2_takeBackInto 5 = .ok (.iconst 1, 1) := by decide +kernel
theorem dX2_takeBackInto_6 : decode cX2_takeBackInto 6 = .ok (.isub, 1) := by decide +kernel
theorem dX2_takeBackInto_7 : decode cX2_takeBackInto 7 = .ok (.putfield 18, 3) := by decide +kernel
theorem dX2_takeBackInto_10 : decode cX2_takeBackInto 10 = .ok (.aload_n 0, 1) := by decide +kernel
theorem dX2_takeBackInto_11 : decode cX2_takeBackInto 11 = .ok (.invokevirtual 25, 3) := by decide +kernel
theorem dX2_takeBackInto_14 : decode cX2_takeBackInto 14 = .ok (.astore_n 2, 1) := by decide +kernel
theorem dX2_takeBackInto_15 : decode cX2_takeBackInto 15 = .ok (.aload_n 2, 1) := by decide +kernel
theorem dX2_takeBackInto_16 : decode cX2_takeBackInto 16 = .ok (.ifnull 8, 3) := by decide +kernel
theorem dX2_takeBackInto_19 : decode cX2_takeBackInto 19 = .ok (.aload_n 1, 1) := by decide +kernel
theorem dX2_takeBackInto_20 : decode cX2_takeBackInto 20 = .ok (.aload_n 2, 1) := by decide +kernel
theorem dX2_takeBackInto_21 : decode cX2_takeBackInto 21 = .ok (.invokevirtual 29, 3) := by decide +kernel
theorem dX2_takeBackInto_24 : decode cX2_takeBackInto 24 = .ok (.return_, 1) := by decide +kernel
theorem dX2_behindLatest_0 : decode cX2_behindLatest 0 = .ok (.aload_n 0, 1) := by decide +kernel
theorem dX2_behindLatest_1 : decode cX2_behindLatest 1 = .ok (.getfield 22, 3) := by decide +kernel
theorem dX2_behindLatest_4 : decode cX2_behindLatest 4 = .ok (.aload_n 0, 1) := by decide +kernel
theorem dX2_behindLatest_5 : decode cX2_behindLatest 5 = .ok (.getfield 18, 3) := by decide +kernel
theorem dX2_behindLatest_8 : decode cX2_behindLatest 8 = .ok (.iadd, 1) := by decide +kernel
theorem dX2_behindLatest_9 : decode cX2_behindLatest 9 = .ok (.iconst 4, 1) := by decide +kernel
theorem dX2_behindLatest_10 : decode cX2_behindLatest 10 = .ok (.invokestatic 33, 3) := by decide +kernel
theorem dX2_behindLatest_13 : decode cX2_behindLatest 13 = .ok (.istore_n 1, 1) := by decide +kernel
theorem dX2_behindLatest_14 : decode cX2_behindLatest 14 = .ok (.iload_n 1, 1) := by decide +kernel
theorem dX2_behindLatest_15 : decode cX2_behindLatest 15 = .ok (.ifCond .lt 21, 3) := by decide +kernel
theorem dX2_behindLatest_18 : decode cX2_behindLatest 18 = .ok (.iload_n 1, 1) := by decide +kernel
theorem dX2_behindLatest_19 : decode cX2_behindLatest 19 = .ok (.aload_n 0, 1) := by decide +kernel
theorem dX2_behindLatest_20 : decode cX2_behindLatest 20 = .ok (.getfield 11, 3) := by decide +kernel
theorem dX2_behindLatest_23 : decode cX2_behindLatest 23 = .ok (.arraylength, 1) := by decide +kernel
theorem dX2_behindLatest_24 : decode cX2_behindLatest 24 = .ok (.if_icmp .ge 12, 3) := by decide +kernel
theorem dX2_behindLatest_27 : decode cX2_behindLatest 27 = .ok (.aload_n 0, 1) := by decide +kernel
theorem dX2_behindLatest_28 : decode cX2_behindLatest 28 = .ok (.getfield 11, 3) := by decide +kernel
theorem dX2_behindLatest_31 : decode cX2_behindLatest 31 = .ok (.iload_n 1, 1) := by decide +kernel
theorem dX2_behindLatest_32 : decode cX2_behindLatest 32 = .ok (.aaload, 1) := by decide +kernel
theorem dX2_behindLatest_33 : decode cX2_behindLatest 33 = .ok (.goto 4, 3) := by decide +kernel
theorem dX2_behindLatest_36 : decode cX2_behindLatest 36 = .ok (.aconst_null, 1) := by decide +kernel
theorem dX2_behindLatest_37 : decode cX2_behindLatest 37 = .ok (.areturn, 1) := by decide +kernel
theorem dX3_init_0 : decode cX3_init 0 = .ok (.aload_n 0, 1) := by decide +kernel
theorem dX3_init_1 : decode cX3_init 1 = .ok (.invokespecial 1, 3) := by decide +kernel
theorem dX3_init_4 : decode cX3_init 4 = .ok (.aload_n 0, 1) := by decide +kernel
theorem dX3_init_5 : decode cX3_init 5 = .ok (.iconst (-1), 1) := by decide +kernel
theorem dX3_init_6 : decode cX3_init 6 = .ok (.putfield 9, 3) := by decide +kernel
theorem dX3_init_9 : decode cX3_init 9 = .ok (.return_, 1) := by decide +kernel
theorem dX3_makeNew_0 : decode cX3_makeNew 0 = .ok (.aload_n 0, 1) := by decide +kernel
theorem dX3_makeNew_1 : decode cX3_makeNew 1 = .ok (.iload_n 1, 1) := by decide +kernel
theorem dX3_makeNew_2 : decode cX3_makeNew 2 = .ok (.putfield 9, 3) := by decide +kernel
theorem dX3_makeNew_5 : decode cX3_makeNew 5 = .ok (.aload_n 0, 1) := by decide +kernel
theorem dX3_makeNew_6 : decode cX3_makeNew 6 = .ok (.iload_n 2, 1) := by decide +kernel
theorem dX3_makeNew_7 : decode cX3_makeNew 7 = .ok (.putfield 13, 3) := by decide +kernel
theorem dX3_makeNew_10 : decode cX3_makeNew 10 = .ok (.aload_n 0, 1) := by decide +kernel
theorem dX3_makeNew_11 : decode cX3_makeNew 11 = .ok (.getstatic 16, 3) := by decide +kernel
theorem dX3_makeNew_14 : decode cX3_makeNew 14 = .ok (.iload_n 1, 1) := by decide +kernel
theorem dX3_makeNew_15 : decode cX3_makeNew 15 = .ok (.invokestatic 20, 3) := by decide +kernel
theorem dX3_makeNew_18 : decode cX3_makeNew 18 = .ok (.iload_n 2, 1) := by decide +kernel
theorem dX3_makeNew_19 : decode cX3_makeNew 19 = .ok (.imul, 1) := by decide +kernel
theorem dX3_makeNew_20 : decode cX3_makeNew 20 = .ok (.bipush 100, 2) := by decide +kernel
theorem dX3_makeNew_22 : decode cX3_makeNew 22 = .ok (.idiv, 1) := by decide +kernel
theorem dX3_makeNew_23 : decode cX3_makeNew 23 = .ok (.putfield 26, 3) := by decide +kernel
theorem dX3_makeNew_26 : decode cX3_makeNew 26 = .ok (.aload_n 0, 1) := by decide +kernel
theorem dX3_makeNew_27 : decode cX3_makeNew 27 = .ok (.iconst 0, 1) := by decide +kernel
theorem dX3_makeNew_28 : decode cX3_makeNew 28 = .ok (.putfield 29, 3) := by decide +kernel
theorem dX3_makeNew_31 : decode cX3_makeNew 31 = .ok (.aload_n 0, 1) := by decide +kernel
theorem dX3_makeNew_32 : decode cX3_makeNew 32 = .ok (.iconst 0, 1) := by decide +kernel
theorem dX3_makeNew_33 : decode cX3_makeNew 33 = .ok (.putfield 32, 3) := by decide +kernel
theorem dX3_makeNew_36 : decode cX3_makeNew 36 = .ok (.aload_n 0, 1) := by decide +kernel
theorem dX3_makeNew_37 : decode cX3_makeNew 37 = .ok (.iconst 0, 1) := by decide +kernel
theorem dX3_makeNew_38 : decode cX3_makeNew 38 = .ok (.putfield 35, 3) := by decide +kernel
theorem dX3_makeNew_41 : decode cX3_makeNew 41 = .ok (.return_, 1) := by decide +kernel
theorem dX3_remove_0 : decode cX3_remove 0 = .ok (.aload_n 0, 1) := by decide +kernel
theorem dX3_remove_1 : decode cX3_remove 1 = .ok (.iconst (-1), 1) := by decide +kernel
theorem dX3_remove_2 : decode cX3_remove 2 = .ok (.putfield 9, 3) := by decide +kernel
theorem dX3_remove_5 : decode cX3_remove 5 = .ok (.return_, 1) := by decide +kernel
theorem dX3_copyFrom_0 : decode cX3_copyFrom 0 = .ok (.aload_n 0, 1) := by decide +kernel
theorem dX3_copyFrom_1 : decode cX3_copyFrom 1 = .ok (.aload_n 1, 1) := by decide +kernel
theorem dX3_copyFrom_2 : decode cX3_copyFrom 2 = .ok (.getfield 9, 3) := by decide +kernel
theorem dX3_copyFrom_5 : decode cX3_copyFrom 5 = .ok (.putfield 9, 3) := by decide +kernel
theorem dX3_copyFrom_8 : decode cX3_copyFrom 8 = .ok (.aload_n 0, 1) := by decide +kernel
theorem dX3_copyFrom_9 : decode cX3_copyFrom 9 = .ok (.aload_n 1, 1) := by decide +kernel
theorem dX3_copyFrom_10 : decode cX3_copyFrom 10 = .ok (.getfield 13, 3) := by decide +kernel
theorem dX3_copyFrom_13 : decode cX3_copyFrom 13 = .ok (.putfield 13, 3) := by decide +kernel
theorem dX3_copyFrom_16 : decode cX3_copyFrom 16 = .ok (.aload_n 0, 1) := by decide +kernel
theorem dX3_copyFrom_17 : decode cX3_copyFrom 17 = .ok (.aload_n 1, 1) := by decide +kernel
theorem dX3_copyFrom_18 : decode cX3_copyFrom 18 = .ok (.getfield 26, 3) := by decide +kernel
theorem dX3_copyFrom_21 : decode cX3_copyFrom 21 = .ok (.putfield 26, 3) := by decide +kernel
theorem dX3_copyFrom_24 : decode cX3_copyFrom 24 = .ok (.aload_n 0, 1) := by decide +kernel
theorem dX3_copyFrom_25 : decode cX3_copyFrom 25 = .ok (.aload_n 1, 1) := by decide +kernel
theorem dX3_copyFrom_26 : decode cX3_copyFrom 26 = .ok (.getfield 29, 3) := by decide +kernel
theorem dX3_copyFrom_29 : decode cX3_copyFrom 29 = .ok (.putfield 29, 3) := by decide +kernel
theorem dX3_copyFrom_32 : decode cX3_copyFrom 32 = .ok (.aload_n 0, 1) := by decide +kernel
theorem dX3_copyFrom_33 : decode cX3_copyFrom 33 = .ok (.aload_n 1, 1) := by decide +kernel
theorem dX3_copyFrom_34 : decode cX3_copyFrom 34 = .ok (.getfield 32, 3) := by decide +kernel
theorem dX3_copyFrom_37 : decode cX3_copyFrom 37 = .ok (.putfield 32, 3) := by decide +kernel
theorem dX3_copyFrom_40 : decode cX3_copyFrom 40 = .ok (.aload_n 0, 1) := by decide +kernel
theorem dX3_copyFrom_41 : decode cX3_copyFrom 41 = .ok (.aload_n 1, 1) := by decide +kernel
theorem dX3_copyFrom_42 : decode cX3_copyFrom 42 = .ok (.getfield 35, 3) := by decide +kernel
theorem dX3_copyFrom_45 : decode cX3_copyFrom 45 = .ok (.putfield 35, 3) := by decide +kernel
theorem dX3_copyFrom_48 : decode cX3_copyFrom 48 = .ok (.return_, 1) := by decide +kernel
theorem dX3_isThere_0 : decode cX3_isThere 0 = .ok (.aload_n 0, 1) := by decide +kernel
theorem dX3_isThere_1 : decode cX3_isThere 1 = .ok (.getfield 9, 3) := by decide +kernel
theorem dX3_isThere_4 : decode cX3_isThere 4 = .ok (.iconst (-1), 1) := by decide +kernel
theorem dX3_isThere_5 : decode cX3_isThere 5 = .ok (.if_icmp .eq 7, 3) := by decide +kernel
theorem dX3_isThere_8 : decode cX3_isThere 8 = .ok (.iconst 1, 1) := by decide +kernel
theorem dX3_isThere_9 : decode cX3_isThere 9 = .ok (.goto 4, 3) := by decide +kernel
theorem dX3_isThere_12 : decode cX3_isThere 12 = .ok (.iconst 0, 1) := by decide +kernel
theorem dX3_isThere_13 : decode cX3_isThere 13 = .ok (.ireturn, 1) := by decide +kernel
theorem dX3_isBurntOut_0 : decode cX3_isBurntOut 0 = .ok (.aload_n 0, 1) := by decide +kernel
theorem dX3_isBurntOut_1 : decode cX3_isBurntOut 1 = .ok (.getfield 29, 3) := by decide +kernel
theorem dX3_isBurntOut_4 : decode cX3_isBurntOut 4 = .ok (.aload_n 0, 1) := by decide +kernel
theorem dX3_isBurntOut_5 : decode cX3_isBurntOut 5 = .ok (.getfield 26, 3) := by decide +kernel
theorem dX3_isBurntOut_8 : decode cX3_isBurntOut 8 = .ok (.if_icmp .lt 7, 3) := by decide +kernel
theorem dX3_isBurntOut_11 : decode cX3_isBurntOut 11 = .ok (.iconst 1, 1) := by decide +kernel
theorem dX3_isBurntOut_12 : decode cX3_isBurntOut 12 = .ok (.goto 4, 3) := by decide +kernel
theorem dX3_isBurntOut_15 : decode cX3_isBurntOut 15 = .ok (.iconst 0, 1) := by decide +kernel
theorem dX3_isBurntOut_16 : decode cX3_isBurntOut 16 = .ok (.ireturn, 1) := by decide +kernel
theorem dX3_isUsable_0 : decode cX3_isUsable 0 = .ok (.aload_n 0, 1) := by decide +kernel
theorem dX3_isUsable_1 : decode cX3_isUsable 1 = .ok (.invokevirtual 39, 3) := by decide +kernel
theorem dX3_isUsable_4 : decode cX3_isUsable 4 = .ok (.ifCond .eq 14, 3) := by decide +kernel
theorem dX3_isUsable_7 : decode cX3_isUsable 7 = .ok (.aload_n 0, 1) := by decide +kernel
theorem dX3_isUsable_8 : decode cX3_isUsable 8 = .ok (.invokevirtual 43, 3) := by decide +kernel
theorem dX3_isUsable_11 : decode cX3_isUsable 11 = .ok (.ifCond .ne 7, 3) := by decide +kernel
theorem dX3_isUsable_14 : decode cX3_isUsable 14 = .ok (.iconst 1, 1) := by decide +kernel
theorem dX3_isUsable_15 : decode cX3_isUsable 15 = .ok (.goto 4, 3) := by decide +kernel
theorem dX3_isUsable_18 : decode cX3_isUsable 18 = .ok (.iconst 0, 1) := by decide +kernel
theorem dX3_isUsable_19 : decode cX3_isUsable 19 = .ok (.ireturn, 1) := by decide +kernel
theorem dX3_isFresh_0 : decode cX3_isFresh 0 = .ok (.aload_n 0, 1) := by decide +kernel
theorem dX3_isFresh_1 : decode cX3_isFresh 1 = .ok (.invokevirtual 46, 3) := by decide +kernel
theorem dX3_isFresh_4 : decode cX3_isFresh 4 = .ok (.ifCond .eq 14, 3) := by decide +kernel
theorem dX3_isFresh_7 : decode cX3_isFresh 7 = .ok (.aload_n 0, 1) := by decide +kernel
theorem dX3_isFresh_8 : decode cX3_isFresh 8 = .ok (.getfield 35, 3) := by decide +kernel
theorem dX3_isFresh_11 : decode cX3_isFresh 11 = .ok (.ifCond .ne 7, 3) := by decide +kernel
theorem dX3_isFresh_14 : decode cX3_isFresh 14 = .ok (.iconst 1, 1) := by decide +kernel
theorem dX3_isFresh_15 : decode cX3_isFresh 15 = .ok (.goto 4, 3) := by decide +kernel
theorem dX3_isFresh_18 : decode cX3_isFresh 18 = .ok (.iconst 0, 1) := by decide +kernel
theorem dX3_isFresh_19 : decode cX3_isFresh 19 = .ok (.ireturn, 1) := by decide +kernel
theorem dX3_left_0 : decode cX3_left 0 = .ok (.aload_n 0, 1) := by decide +kernel
theorem dX3_left_1 : decode cX3_left 1 = .ok (.getfield 26, 3) := by decide +kernel
theorem dX3_left_4 : decode cX3_left 4 = .ok (.aload_n 0, 1) := by decide +kernel
theorem dX3_left_5 : decode cX3_left 5 = .ok (.getfield 29, 3) := by decide +kernel
theorem dX3_left_8 : decode cX3_left 8 = .ok (.isub, 1) := by decide +kernel
theorem dX3_left_9 : decode cX3_left 9 = .ok (.ireturn, 1) := by decide +kernel
theorem dX3_current_0 : decode cX3_current 0 = .ok (.aload_n 0, 1) := by decide +kernel
theorem dX3_current_1 : decode cX3_current 1 = .ok (.getfield 26, 3) := by decide +kernel
theorem dX3_current_4 : decode cX3_current 4 = .ok (.ifCond .le 10, 3) := by decide +kernel
theorem dX3_current_7 : decode cX3_current 7 = .ok (.aload_n 0, 1) := by decide +kernel
theorem dX3_current_8 : decode cX3_current 8 = .ok (.invokevirtual 43, 3) := by decide +kernel
theorem dX3_current_11 : decode cX3_current 11 = .ok (.ifCond .eq 5, 3) := by decide +kernel
theorem dX3_current_14 : decode cX3_current 14 = .ok (.iconst 0, 1) := by decide +kernel
theorem dX3_current_15 : decode cX3_current 15 = .ok (.ireturn, 1) := by decide +kernel
theorem dX3_current_16 : decode cX3_current 16 = .ok (.getstatic 49, 3) := by decide +kernel
theorem dX3_current_19 : decode cX3_current 19 = .ok (.aload_n 0, 1) := by decide +kernel
theorem dX3_current_20 : decode cX3_current 20 = .ok (.getfield 9, 3) := by decide +kernel
theorem dX3_current_23 : decode cX3_current 23 = .ok (.invokestatic 20, 3) := by decide +kernel
theorem dX3_current_26 : decode cX3_current 26 = .ok (.istore_n 1, 1) := by decide +kernel
theorem dX3_current_27 : decode cX3_current 27 = .ok (.iload_n 1, 1) := by decide +kernel
theorem dX3_current_28 : decode cX3_current 28 = .ok (.iload_n 1, 1) := by decide +kernel
theorem dX3_current_29 : decode cX3_current 29 = .ok (.aload_n 0, 1) := by decide +kernel
theorem dX3_current_30 : decode cX3_current 30 = .ok (.getfield 29, 3) := by decide +kernel
theorem dX3_current_33 : decode cX3_current 33 = .ok (.imul, 1) := by decide +kernel
theorem dX3_current_34 : decode cX3_current 34 = .ok (.iconst 4, 1) := by decide +kernel
theorem dX3_current_35 : decode cX3_current 35 = .ok (.aload_n 0, 1) := by decide +kernel
theorem dX3_current_36 : decode cX3_current 36 = .ok (.getfield 26, 3) := by decide +kernel
theorem dX3_current_39 : decode cX3_current 39 = .ok (.imul, 1) := by decide +kernel
theorem dX3_current_40 : decode cX3_current 40 = .ok (.idiv, 1) := by decide +kernel
theorem dX3_current_41 : decode cX3_current 41 = .ok (.isub, 1) := by decide +kernel
theorem dX3_current_42 : decode cX3_current 42 = .ok (.ireturn, 1) := by decide +kernel
theorem dX3_wearBySwitchingOn_0 : decode cX3_wearBySwitchingOn 0 = .ok (.aload_n 0, 1) := by decide +kernel
theorem dX3_wearBySwitchingOn_1 : decode cX3_wearBySwitchingOn 1 = .ok (.dup, 1) := by decide +kernel
theorem dX3_wearBySwitchingOn_2 : decode cX3_wearBySwitchingOn 2 = .ok (.getfield 29, 3) := by decide +kernel
theorem dX3_wearBySwitchingOn_5 : decode cX3_wearBySwitchingOn 5 = .ok (.getstatic 52, 3) := by decide +kernel
theorem dX3_wearBySwitchingOn_8 : decode cX3_wearBySwitchingOn 8 = .ok (.aload_n 0, 1) := by decide +kernel
theorem dX3_wearBySwitchingOn_9 : decode cX3_wearBySwitchingOn 9 = .ok (.getfield 9, 3) := by decide +kernel
theorem dX3_wearBySwitchingOn_12 : decode cX3_wearBySwitchingOn 12 = .ok (.invokestatic 20, 3) := by decide +kernel
theorem dX3_wearBySwitchingOn_15 : decode cX3_wearBySwitchingOn 15 = .ok (.iadd, 1) := by decide +kernel
theorem dX3_wearBySwitchingOn_16 : decode cX3_wearBySwitchingOn 16 = .ok (.putfield 29, 3) := by decide +kernel
theorem dX3_wearBySwitchingOn_19 : decode cX3_wearBySwitchingOn 19 = .ok (.return_, 1) := by decide +kernel
theorem dX3_growsTiredByBurning_0 : decode cX3_growsTiredByBurning 0 = .ok (.aload_n 0, 1) := by decide +kernel
theorem dX3_growsTiredByBurning_1 : decode cX3_growsTiredByBurning 1 = .ok (.dup, 1) := by decide +kernel
theorem dX3_growsTiredByBurning_2 : decode cX3_growsTiredByBurning 2 = .ok (.getfield 29, 3) := by decide +kernel
theorem dX3_growsTiredByBurning_5 : decode cX3_growsTiredByBurning 5 = .ok (.iconst 1, 1) := by decide +kernel
theorem dX3_growsTiredByBurning_6 : decode cX3_growsTiredByBurning 6 = .ok (.iadd, 1) := by decide +kernel
theorem dX3_growsTiredByBurning_7 : decode cX3_growsTiredByBurning 7 = .ok (.putfield 29, 3) := by decide +kernel
theorem dX3_growsTiredByBurning_10 : decode cX3_growsTiredByBurning 10 = .ok (.bipush 100, 2) := by decide +kernel
theorem dX3_growsTiredByBurning_12 : decode cX3_growsTiredByBurning 12 = .ok (.aload_n 0, 1) := by decide +kernel
theorem dX3_growsTiredByBurning_13 : decode cX3_growsTiredByBurning 13 = .ok (.invokevirtual 55, 3) := by decide +kernel
theorem dX3_growsTiredByBurning_16 : decode cX3_growsTiredByBurning 16 = .ok (.imul, 1) := by decide +kernel
theorem dX3_growsTiredByBurning_17 : decode cX3_growsTiredByBurning 17 = .ok (.iload_n 1, 1) := by decide +kernel
theorem dX3_growsTiredByBurning_18 : decode cX3_growsTiredByBurning 18 = .ok (.getstatic 49, 3) := by decide +kernel
theorem dX3_growsTiredByBurning_21 : decode cX3_growsTiredByBurning 21 = .ok (.aload_n 0, 1) := by decide +kernel
theorem dX3_growsTiredByBurning_22 : decode cX3_growsTiredByBurning 22 = .ok (.getfield 9, 3) := by decide +kernel
theorem dX3_growsTiredByBurning_25 : decode cX3_growsTiredByBurning 25 = .ok (.invokestatic 20, 3) := by decide +kernel
theorem dX3_growsTiredByBurning_28 : decode cX3_growsTiredByBurning 28 = .ok (.imul, 1) := by decide +kernel
theorem dX3_growsTiredByBurning_29 : decode cX3_growsTiredByBurning 29 = .ok (.if_icmp .ge 7, 3) := by decide +kernel
theorem dX3_growsTiredByBurning_32 : decode cX3_growsTiredByBurning 32 = .ok (.iconst 1, 1) := by decide +kernel
theorem dX3_growsTiredByBurning_33 : decode cX3_growsTiredByBurning 33 = .ok (.goto 4, 3) := by decide +kernel
theorem dX3_growsTiredByBurning_36 : decode cX3_growsTiredByBurning 36 = .ok (.iconst 0, 1) := by decide +kernel
theorem dX3_growsTiredByBurning_37 : decode cX3_growsTiredByBurning 37 = .ok (.istore_n 3, 1) := by decide +kernel
theorem dX3_growsTiredByBurning_38 : decode cX3_growsTiredByBurning 38 = .ok (.aload_n 0, 1) := by decide +kernel
theorem dX3_growsTiredByBurning_39 : decode cX3_growsTiredByBurning 39 = .ok (.iload_n 3, 1) := by decide +kernel
theorem dX3_growsTiredByBurning_40 : decode cX3_growsTiredByBurning 40 = .ok (.ifCond .eq 12, 3) := by decide +kernel
theorem dX3_growsTiredByBurning_43 : decode cX3_growsTiredByBurning 43 = .ok (.aload_n 0, 1) := by decide +kernel
theorem dX3_growsTiredByBurning_44 : decode cX3_growsTiredByBurning 44 = .ok (.getfield 32, 3) := by decide +kernel
theorem dX3_growsTiredByBurning_47 : decode cX3_growsTiredByBurning 47 = .ok (.iconst 1, 1) := by decide +kernel
theorem dX3_growsTiredByBurning_48 : decode cX3_growsTiredByBurning 48 = .ok (.iadd, 1) := by decide +kernel
theorem dX3_growsTiredByBurning_49 : decode cX3_growsTiredByBurning 49 = .ok (.goto 4, 3) := by decide +kernel
theorem dX3_growsTiredByBurning_52 : decode cX3_growsTiredByBurning 52 = .ok (.iconst 0, 1) := by decide +kernel
theorem dX3_growsTiredByBurning_53 : decode cX3_growsTiredByBurning 53 = .ok (.putfield 32, 3) := by decide +kernel
theorem dX3_growsTiredByBurning_56 : decode cX3_growsTiredByBurning 56 = .ok (.aload_n 0, 1) := by decide +kernel
theorem dX3_growsTiredByBurning_57 : decode cX3_growsTiredByBurning 57 = .ok (.getfield 35, 3) := by decide +kernel
theorem dX3_growsTiredByBurning_60 : decode cX3_growsTiredByBurning 60 = .ok (.ifCond .ne 15, 3) := by decide +kernel
theorem dX3_growsTiredByBurning_63 : decode cX3_growsTiredByBurning 63 = .ok (.aload_n 0, 1) := by decide +kernel
theorem dX3_growsTiredByBurning_64 : decode cX3_growsTiredByBurning 64 = .ok (.getfield 32, 3) := by decide +kernel
theorem dX3_growsTiredByBurning_67 : decode cX3_growsTiredByBurning 67 = .ok (.iload_n 2, 1) := by decide +kernel
theorem dX3_growsTiredByBurning_68 : decode cX3_growsTiredByBurning 68 = .ok (.if_icmp .lt 7, 3) := by decide +kernel
theorem dX3_growsTiredByBurning_71 : decode cX3_growsTiredByBurning 71 = .ok (.iconst 1, 1) := by decide +kernel
theorem dX3_growsTiredByBurning_72 : decode cX3_growsTiredByBurning 72 = .ok (.goto 4, 3) := by decide +kernel
theorem dX3_growsTiredByBurning_75 : decode cX3_growsTiredByBurning 75 = .ok (.iconst 0, 1) := by decide +kernel
theorem dX3_growsTiredByBurning_76 : decode cX3_growsTiredByBurning 76 = .ok (.istore 4, 2) := by decide +kernel
theorem dX3_growsTiredByBurning_78 : decode cX3_growsTiredByBurning 78 = .ok (.aload_n 0, 1) := by decide +kernel
theorem dX3_growsTiredByBurning_79 : decode cX3_growsTiredByBurning 79 = .ok (.aload_n 0, 1) := by decide +kernel
theorem dX3_growsTiredByBurning_80 : decode cX3_growsTiredByBurning 80 = .ok (.getfield 35, 3) := by decide +kernel
theorem dX3_growsTiredByBurning_83 : decode cX3_growsTiredByBurning 83 = .ok (.ifCond .ne 8, 3) := by decide +kernel
theorem dX3_growsTiredByBurning_86 : decode cX3_growsTiredByBurning 86 = .ok (.iload 4, 2) := by decide +kernel
theorem dX3_growsTiredByBurning_88 : decode cX3_growsTiredByBurning 88 = .ok (.ifCond .eq 7, 3) := by decide +kernel
theorem dX3_growsTiredByBurning_91 : decode cX3_growsTiredByBurning 91 = .ok (.iconst 1, 1) := by decide +kernel
theorem dX3_growsTiredByBurning_92 : decode cX3_growsTiredByBurning 92 = .ok (.goto 4, 3) := by decide +kernel
theorem dX3_growsTiredByBurning_95 : decode cX3_growsTiredByBurning 95 = .ok (.iconst 0, 1) := by decide +kernel
theorem dX3_growsTiredByBurning_96 : decode cX3_growsTiredByBurning 96 = .ok (.putfield 35, 3) := by decide +kernel
theorem dX3_growsTiredByBurning_99 : decode cX3_growsTiredByBurning 99 = .ok (.iload 4, 2) := by decide +kernel
theorem dX3_growsTiredByBurning_101 : decode cX3_growsTiredByBurning 101 = .ok (.ireturn, 1) := by decide +kernel
theorem dX4_init_0 : decode cX4_init 0 = .ok (.aload_n 0, 1) := by decide +kernel
theorem dX4_init_1 : decode cX4_init 1 = .ok (.invokespecial 3, 3) := by decide +kernel
theorem dX4_init_4 : decode cX4_init 4 = .ok (.aload_n 0, 1) := by decide +kernel
theorem dX4_init_5 : decode cX4_init 5 = .ok (.bipush 10, 2) := by decide +kernel
theorem dX4_init_7 : decode cX4_init 7 = .ok (.newarray .int, 2) := by decide +kernel
theorem dX4_init_9 : decode cX4_init 9 = .ok (.putfield 9, 3) := by decide +kernel
theorem dX4_init_12 : decode cX4_init 12 = .ok (.aload_n 0, 1) := by decide +kernel
theorem dX4_init_13 : decode cX4_init 13 = .ok (.bipush 10, 2) := by decide +kernel
theorem dX4_init_15 : decode cX4_init 15 = .ok (.newarray .int, 2) := by decide +kernel
theorem dX4_init_17 : decode cX4_init 17 = .ok (.putfield 15, 3) := by decide +kernel
theorem dX4_init_20 : decode cX4_init 20 = .ok (.aload_n 0, 1) := by decide +kernel
theorem dX4_init_21 : decode cX4_init 21 = .ok (.bipush 10, 2) := by decide +kernel
theorem dX4_init_23 : decode cX4_init 23 = .ok (.newarray .int, 2) := by decide +kernel
theorem dX4_init_25 : decode cX4_init 25 = .ok (.putfield 18, 3) := by decide +kernel
theorem dX4_init_28 : decode cX4_init 28 = .ok (.return_, 1) := by decide +kernel
theorem dX4_copyFrom_0 : decode cX4_copyFrom 0 = .ok (.aload_n 1, 1) := by decide +kernel
theorem dX4_copyFrom_1 : decode cX4_copyFrom 1 = .ok (.getfield 9, 3) := by decide +kernel
theorem dX4_copyFrom_4 : decode cX4_copyFrom 4 = .ok (.aload_n 0, 1) := by decide +kernel
theorem dX4_copyFrom_5 : decode cX4_copyFrom 5 = .ok (.getfield 9, 3) := by decide +kernel
theorem dX4_copyFrom_8 : decode cX4_copyFrom 8 = .ok (.invokestatic 21, 3) := by decide +kernel
theorem dX4_copyFrom_11 : decode cX4_copyFrom 11 = .ok (.aload_n 1, 1) := by decide +kernel
theorem dX4_copyFrom_12 : decode cX4_copyFrom 12 = .ok (.getfield 15, 3) := by decide +kernel
theorem dX4_copyFrom_15 : decode cX4_copyFrom 15 = .ok (.aload_n 0, 1) := by decide +kernel
theorem dX4_copyFrom_16 : decode cX4_copyFrom 16 = .ok (.getfield 15, 3) := by decide +kernel
theorem dX4_copyFrom_19 : decode cX4_copyFrom 19 = .ok (.invokestatic 21, 3) := by decide +kernel
theorem dX4_copyFrom_22 : decode cX4_copyFrom 22 = .ok (.aload_n 1, 1) := by decide +kernel
theorem dX4_copyFrom_23 : decode cX4_copyFrom 23 = .ok (.getfield 18, 3) := by decide +kernel
theorem dX4_copyFrom_26 : decode cX4_copyFrom 26 = .ok (.aload_n 0, 1) := by decide +kernel
theorem dX4_copyFrom_27 : decode cX4_copyFrom 27 = .ok (.getfield 18, 3) := by decide +kernel
theorem dX4_copyFrom_30 : decode cX4_copyFrom 30 = .ok (.invokestatic 21, 3) := by decide +kernel
theorem dX4_copyFrom_33 : decode cX4_copyFrom 33 = .ok (.aload_n 0, 1) := by decide +kernel
theorem dX4_copyFrom_34 : decode cX4_copyFrom 34 = .ok (.aload_n 1, 1) := by decide +kernel
theorem dX4_copyFrom_35 : decode cX4_copyFrom 35 = .ok (.getfield 27, 3) := by decide +kernel
theorem dX4_copyFrom_38 : decode cX4_copyFrom 38 = .ok (.putfield 27, 3) := by decide +kernel
theorem dX4_copyFrom_41 : decode cX4_copyFrom 41 = .ok (.return_, 1) := by decide +kernel
theorem dX4_empty_0 : decode cX4_empty 0 = .ok (.aload_n 0, 1) := by decide +kernel
theorem dX4_empty_1 : decode cX4_empty 1 = .ok (.iconst 0, 1) := by decide +kernel
theorem dX4_empty_2 : decode cX4_empty 2 = .ok (.putfield 27, 3) := by decide +kernel
theorem dX4_empty_5 : decode cX4_empty 5 = .ok (.return_, 1) := by decide +kernel
theorem dX4_rowOfTick_0 : decode cX4_rowOfTick 0 = .ok (.iconst 0, 1) := by decide +kernel
theorem dX4_rowOfTick_1 : decode cX4_rowOfTick 1 = .ok (.istore_n 2, 1) := by decide +kernel
theorem dX4_rowOfTick_2 : decode cX4_rowOfTick 2 = .ok (.iload_n 2, 1) := by decide +kernel
theorem dX4_rowOfTick_3 : decode cX4_rowOfTick 3 = .ok (.aload_n 0, 1) := by decide +kernel
theorem dX4_rowOfTick_4 : decode cX4_rowOfTick 4 = .ok (.getfield 27, 3) := by decide +kernel
theorem dX4_rowOfTick_7 : decode cX4_rowOfTick 7 = .ok (.if_icmp .ge 23, 3) := by decide +kernel
theorem dX4_rowOfTick_10 : decode cX4_rowOfTick 10 = .ok (.aload_n 0, 1) := by decide +kernel
theorem dX4_rowOfTick_11 : decode cX4_rowOfTick 11 = .ok (.getfield 9, 3) := by decide +kernel
theorem dX4_rowOfTick_14 : decode cX4_rowOfTick 14 = .ok (.iload_n 2, 1) := by decide +kernel
theorem dX4_rowOfTick_15 : decode cX4_rowOfTick 15 = .ok (.invokestatic 31, 3) := by decide +kernel
theorem dX4_rowOfTick_18 : decode cX4_rowOfTick 18 = .ok (.iload_n 1, 1) := by decide +kernel
theorem dX4_rowOfTick_19 : decode cX4_rowOfTick 19 = .ok (.if_icmp .ne 5, 3) := by decide +kernel
theorem dX4_rowOfTick_22 : decode cX4_rowOfTick 22 = .ok (.iload_n 2, 1) := by decide +kernel
theorem dX4_rowOfTick_23 : decode cX4_rowOfTick 23 = .ok (.ireturn, 1) := by decide +kernel
theorem dX4_rowOfTick_24 : decode cX4_rowOfTick 24 = .ok (.iinc 2 1, 3) := by decide +kernel
theorem dX4_rowOfTick_27 : decode cX4_rowOfTick 27 = .ok (.goto (-25), 3) := by decide +kernel
theorem dX4_rowOfTick_30 : decode cX4_rowOfTick 30 = .ok (.bipush (-5), 2) := by decide +kernel
theorem dX4_rowOfTick_32 : decode cX4_rowOfTick 32 = .ok (.ireturn, 1) := by decide +kernel
theorem dX4_hasRoomFor_0 : decode cX4_hasRoomFor 0 = .ok (.aload_n 0, 1) := by decide +kernel
theorem dX4_hasRoomFor_1 : decode cX4_hasRoomFor 1 = .ok (.getfield 27, 3) := by decide +kernel
theorem dX4_hasRoomFor_4 : decode cX4_hasRoomFor 4 = .ok (.bipush 10, 2) := by decide +kernel
theorem dX4_hasRoomFor_6 : decode cX4_hasRoomFor 6 = .ok (.if_icmp .lt 13, 3) := by decide +kernel
theorem dX4_hasRoomFor_9 : decode cX4_hasRoomFor 9 = .ok (.aload_n 0, 1) := by decide +kernel
theorem dX4_hasRoomFor_10 : decode cX4_hasRoomFor 10 = .ok (.iload_n 1, 1) := by decide +kernel
theorem dX4_hasRoomFor_11 : decode cX4_hasRoomFor 11 = .ok (.invokevirtual 35, 3) := by decide +kernel
theorem dX4_hasRoomFor_14 : decode cX4_hasRoomFor 14 = .ok (.bipush (-5), 2) := by decide +kernel
theorem dX4_hasRoomFor_16 : decode cX4_hasRoomFor 16 = .ok (.if_icmp .eq 7, 3) := by decide +kernel
theorem dX4_hasRoomFor_19 : decode cX4_hasRoomFor 19 = .ok (.iconst 1, 1) := by decide +kernel
theorem dX4_hasRoomFor_20 : decode cX4_hasRoomFor 20 = .ok (.goto 4, 3) := by decide +kernel
theorem dX4_hasRoomFor_23 : decode cX4_hasRoomFor 23 = .ok (.iconst 0, 1) := by decide +kernel
theorem dX4_hasRoomFor_24 : decode cX4_hasRoomFor 24 = .ok (.ireturn, 1) := by decide +kernel
theorem dX4_enter_0 : decode cX4_enter 0 = .ok (.aload_n 0, 1) := by decide +kernel
theorem dX4_enter_1 : decode cX4_enter 1 = .ok (.iload_n 1, 1) := by decide +kernel
theorem dX4_enter_2 : decode cX4_enter 2 = .ok (.invokevirtual 35, 3) := by decide +kernel
theorem dX4_enter_5 : decode cX4_enter 5 = .ok (.istore 4, 2) := by decide +kernel
theorem dX4_enter_7 : decode cX4_enter 7 = .ok (.iload 4, 2) := by decide +kernel
theorem dX4_enter_9 : decode cX4_enter 9 = .ok (.bipush (-5), 2) := by decide +kernel
theorem dX4_enter_11 : decode cX4_enter 11 = .ok (.if_icmp .ne 19, 3) := by decide +kernel
theorem dX4_enter_14 : decode cX4_enter 14 = .ok (.aload_n 0, 1) := by decide +kernel
theorem dX4_enter_15 : decode cX4_enter 15 = .ok (.getfield 27, 3) := by decide +kernel
theorem dX4_enter_18 : decode cX4_enter 18 = .ok (.istore 4, 2) := by decide +kernel
theorem dX4_enter_20 : decode cX4_enter 20 = .ok (.aload_n 0, 1) := by decide +kernel
theorem dX4_enter_21 : decode cX4_enter 21 = .ok (.dup, 1) := by decide +kernel
theorem dX4_enter_22 : decode cX4_enter 22 = .ok (.getfield 27, 3) := by decide +kernel
theorem dX4_enter_25 : decode cX4_enter 25 = .ok (.iconst 1, 1) := by decide +kernel
theorem dX4_enter_26 : decode cX4_enter 26 = .ok (.iadd, 1) := by decide +kernel
theorem dX4_enter_27 : decode cX4_enter 27 = .ok (.putfield 27, 3) := by decide +kernel
theorem dX4_enter_30 : decode cX4_enter 30 = .ok (.aload_n 0, 1) := by decide +kernel
theorem dX4_enter_31 : decode cX4_enter 31 = .ok (.getfield 9, 3) := by decide +kernel
theorem dX4_enter_34 : decode cX4_enter 34 = .ok (.iload 4, 2) := by decide +kernel
theorem dX4_enter_36 : decode cX4_enter 36 = .ok (.iload_n 1, 1) := by decide +kernel
theorem dX4_enter_37 : decode cX4_enter 37 = .ok (.invokestatic 39, 3) := by decide +kernel
theorem dX4_enter_40 : decode cX4_enter 40 = .ok (.aload_n 0, 1) := by decide +kernel
theorem dX4_enter_41 : decode cX4_enter 41 = .ok (.getfield 15, 3) := by decide +kernel
theorem dX4_enter_44 : decode cX4_enter 44 = .ok (.iload 4, 2) := by decide +kernel
theorem dX4_enter_46 : decode cX4_enter 46 = .ok (.iload_n 2, 1) := by decide +kernel
theorem dX4_enter_47 : decode cX4_enter 47 = .ok (.invokestatic 39, 3) := by decide +kernel
theorem dX4_enter_50 : decode cX4_enter 50 = .ok (.aload_n 0, 1) := by decide +kernel
theorem dX4_enter_51 : decode cX4_enter 51 = .ok (.getfield 18, 3) := by decide +kernel
theorem dX4_enter_54 : decode cX4_enter 54 = .ok (.iload 4, 2) := by decide +kernel
theorem dX4_enter_56 : decode cX4_enter 56 = .ok (.iload_n 3, 1) := by decide +kernel
theorem dX4_enter_57 : decode cX4_enter 57 = .ok (.invokestatic 39, 3) := by decide +kernel
theorem dX4_enter_60 : decode cX4_enter 60 = .ok (.return_, 1) := by decide +kernel
theorem dX4_rowOfPlace_0 : decode cX4_rowOfPlace 0 = .ok (.iconst 0, 1) := by decide +kernel
theorem dX4_rowOfPlace_1 : decode cX4_rowOfPlace 1 = .ok (.istore_n 2, 1) := by decide +kernel
theorem dX4_rowOfPlace_2 : decode cX4_rowOfPlace 2 = .ok (.iload_n 2, 1) := by decide +kernel
theorem dX4_rowOfPlace_3 : decode cX4_rowOfPlace 3 = .ok (.aload_n 0, 1) := by decide +kernel
theorem dX4_rowOfPlace_4 : decode cX4_rowOfPlace 4 = .ok (.getfield 27, 3) := by decide +kernel
theorem dX4_rowOfPlace_7 : decode cX4_rowOfPlace 7 = .ok (.if_icmp .ge 27, 3) := by decide +kernel
theorem dX4_rowOfPlace_10 : decode cX4_rowOfPlace 10 = .ok (.aload_n 0, 1) := by decide +kernel
theorem dX4_rowOfPlace_11 : decode cX4_rowOfPlace 11 = .ok (.aload_n 0, 1) := by decide +kernel
theorem dX4_rowOfPlace_12 : decode cX4_rowOfPlace 12 = .ok (.getfield 9, 3) := by decide +kernel
theorem dX4_rowOfPlace_15 : decode cX4_rowOfPlace 15 = .ok (.iload_n 2, 1) := by decide +kernel
theorem dX4_rowOfPlace_16 : decode cX4_rowOfPlace 16 = .ok (.invokestatic 31, 3) := by decide +kernel
theorem dX4_rowOfPlace_19 : decode cX4_rowOfPlace 19 = .ok (.invokevirtual 43, 3) := by decide +kernel
theorem dX4_rowOfPlace_22 : decode cX4_rowOfPlace 22 = .ok (.iload_n 1, 1) := by decide +kernel
theorem dX4_rowOfPlace_23 : decode cX4_rowOfPlace 23 = .ok (.if_icmp .ne 5, 3) := by decide +kernel
theorem dX4_rowOfPlace_26 : decode cX4_rowOfPlace 26 = .ok (.iload_n 2, 1) := by decide +kernel
theorem dX4_rowOfPlace_27 : decode cX4_rowOfPlace 27 = .ok (.ireturn, 1) := by decide +kernel
theorem dX4_rowOfPlace_28 : decode cX4_rowOfPlace 28 = .ok (.iinc 2 1, 3) := by decide +kernel
theorem dX4_rowOfPlace_31 : decode cX4_rowOfPlace 31 = .ok (.goto (-29), 3) := by decide +kernel
theorem dX4_rowOfPlace_34 : decode cX4_rowOfPlace 34 = .ok (.bipush (-5), 2) := by decide +kernel
theorem dX4_rowOfPlace_36 : decode cX4_rowOfPlace 36 = .ok (.ireturn, 1) := by decide +kernel
theorem dX4_boatsAheadOf_0 : decode cX4_boatsAheadOf 0 = .ok (.iconst 0, 1) := by decide +kernel
theorem dX4_boatsAheadOf_1 : decode cX4_boatsAheadOf 1 = .ok (.istore_n 2, 1) := by decide +kernel
theorem dX4_boatsAheadOf_2 : decode cX4_boatsAheadOf 2 = .ok (.iconst 0, 1) := by decide +kernel
theorem dX4_boatsAheadOf_3 : decode cX4_boatsAheadOf 3 = .ok (.istore_n 3, 1) := by decide +kernel
theorem dX4_boatsAheadOf_4 : decode cX4_boatsAheadOf 4 = .ok (.iload_n 3, 1) := by decide +kernel
theorem dX4_boatsAheadOf_5 : decode cX4_boatsAheadOf 5 = .ok (.aload_n 0, 1) := by decide +kernel
theorem dX4_boatsAheadOf_6 : decode cX4_boatsAheadOf 6 = .ok (.getfield 27, 3) := by decide +kernel
theorem dX4_boatsAheadOf_9 : decode cX4_boatsAheadOf 9 = .ok (.if_icmp .ge 32, 3) := by decide +kernel
theorem dX4_boatsAheadOf_12 : decode cX4_boatsAheadOf 12 = .ok (.iload_n 2, 1) := by decide +kernel
theorem dX4_boatsAheadOf_13 : decode cX4_boatsAheadOf 13 = .ok (.aload_n 0, 1) := by decide +kernel
theorem dX4_boatsAheadOf_14 : decode cX4_boatsAheadOf 14 = .ok (.getfield 9, 3) := by decide +kernel
theorem dX4_boatsAheadOf_17 : decode cX4_boatsAheadOf 17 = .ok (.iload_n 3, 1) := by decide +kernel
theorem dX4_boatsAheadOf_18 : decode cX4_boatsAheadOf 18 = .ok (.invokestatic 31, 3) := by decide +kernel
theorem dX4_boatsAheadOf_21 : decode cX4_boatsAheadOf 21 = .ok (.iload_n 1, 1) := by decide +kernel
theorem dX4_boatsAheadOf_22 : decode cX4_boatsAheadOf 22 = .ok (.if_icmp .ge 7, 3) := by decide +kernel
theorem dX4_boatsAheadOf_25 : decode cX4_boatsAheadOf 25 = .ok (.iconst 1, 1) := by decide +kernel
theorem dX4_boatsAheadOf_26 : decode cX4_boatsAheadOf 26 = .ok (.goto 4, 3) := by decide +kernel
theorem dX4_boatsAheadOf_29 : decode cX4_boatsAheadOf 29 = .ok (.iconst 0, 1) := by decide +kernel
theorem dX4_boatsAheadOf_30 : decode cX4_boatsAheadOf 30 = .ok (.invokestatic 46, 3) := by decide +kernel
theorem dX4_boatsAheadOf_33 : decode cX4_boatsAheadOf 33 = .ok (.iadd, 1) := by decide +kernel
theorem dX4_boatsAheadOf_34 : decode cX4_boatsAheadOf 34 = .ok (.istore_n 2, 1) := by decide +kernel
theorem dX4_boatsAheadOf_35 : decode cX4_boatsAheadOf 35 = .ok (.iinc 3 1, 3) := by decide +kernel
theorem dX4_boatsAheadOf_38 : decode cX4_boatsAheadOf 38 = .ok (.goto (-34), 3) := by decide +kernel
theorem dX4_boatsAheadOf_41 : decode cX4_boatsAheadOf 41 = .ok (.iload_n 2, 1) := by decide +kernel
theorem dX4_boatsAheadOf_42 : decode cX4_boatsAheadOf 42 = .ok (.ireturn, 1) := by decide +kernel
theorem dX5_init_0 : decode cX5_init 0 = .ok (.aload_n 0, 1) := by decide +kernel
theorem dX5_init_1 : decode cX5_init 1 = .ok (.invokespecial 3, 3) := by decide +kernel
theorem dX5_init_4 : decode cX5_init 4 = .ok (.aload_n 0, 1) := by decide +kernel
theorem dX5_init_5 : decode cX5_init 5 = .ok (.bipush 60, 2) := by decide +kernel
theorem dX5_init_7 : decode cX5_init 7 = .ok (.newarray .char, 2) := by decide +kernel
theorem dX5_init_9 : decode cX5_init 9 = .ok (.putfield 9, 3) := by decide +kernel
theorem dX5_init_12 : decode cX5_init 12 = .ok (.return_, 1) := by decide +kernel
theorem dX5_add_0 : decode cX5_add 0 = .ok (.aload_n 0, 1) := by decide +kernel
theorem dX5_add_1 : decode cX5_add 1 = .ok (.getfield 15, 3) := by decide +kernel
theorem dX5_add_4 : decode cX5_add 4 = .ok (.ifCond .lt 15, 3) := by decide +kernel
theorem dX5_add_7 : decode cX5_add 7 = .ok (.aload_n 0, 1) := by decide +kernel
theorem dX5_add_8 : decode cX5_add 8 = .ok (.getfield 15, 3) := by decide +kernel
theorem dX5_add_11 : decode cX5_add 11 = .ok (.aload_n 0, 1) := by decide +kernel
theorem dX5_add_12 : decode cX5_add 12 = .ok (.getfield 9, 3) := by decide +kernel
theorem dX5_add_15 : decode cX5_add 15 = .ok (.arraylength, 1) := by decide +kernel
theorem dX5_add_16 : decode cX5_add 16 = .ok (.if_icmp .lt 5, 3) := by decide +kernel
theorem dX5_add_19 : decode cX5_add 19 = .ok (.iconst 0, 1) := by decide +kernel
theorem dX5_add_20 : decode cX5_add 20 = .ok (.ireturn, 1) := by decide +kernel
theorem dX5_add_21 : decode cX5_add 21 = .ok (.aload_n 0, 1) := by decide +kernel
theorem dX5_add_22 : decode cX5_add 22 = .ok (.getfield 9, 3) := by decide +kernel
theorem dX5_add_25 : decode cX5_add 25 = .ok (.aload_n 0, 1) := by decide +kernel
theorem dX5_add_26 : decode cX5_add 26 = .ok (.getfield 15, 3) := by decide +kernel
theorem dX5_add_29 : decode cX5_add 29 = .ok (.iload_n 1, 1) := by decide +kernel
theorem dX5_add_30 : decode cX5_add 30 = .ok (.castore, 1) := by decide +kernel
theorem dX5_add_31 : decode cX5_add 31 = .ok (.aload_n 0, 1) := by decide +kernel
theorem dX5_add_32 : decode cX5_add 32 = .ok (.dup, 1) := by decide +kernel
theorem dX5_add_33 : decode cX5_add 33 = .ok (.getfield 15, 3) := by decide +kernel
theorem dX5_add_36 : decode cX5_add 36 = .ok (.iconst 1, 1) := by decide +kernel
theorem dX5_add_37 : decode cX5_add 37 = .ok (.iadd, 1) := by decide +kernel
theorem dX5_add_38 : decode cX5_add 38 = .ok (.putfield 15, 3) := by decide +kernel
theorem dX5_add_41 : decode cX5_add 41 = .ok (.iconst 1, 1) := by decide +kernel
theorem dX5_add_42 : decode cX5_add 42 = .ok (.ireturn, 1) := by decide +kernel
theorem dX5_readInto_0 : decode cX5_readInto 0 = .ok (.aload_n 1, 1) := by decide +kernel
theorem dX5_readInto_1 : decode cX5_readInto 1 = .ok (.invokevirtual 19, 3) := by decide +kernel
theorem dX5_readInto_4 : decode cX5_readInto 4 = .ok (.aload_n 0, 1) := by decide +kernel
theorem dX5_readInto_5 : decode cX5_readInto 5 = .ok (.iconst 0, 1) := by decide +kernel
theorem dX5_readInto_6 : decode cX5_readInto 6 = .ok (.putfield 24, 3) := by decide +kernel
theorem dX5_readInto_9 : decode cX5_readInto 9 = .ok (.aload_n 0, 1) := by decide +kernel
theorem dX5_readInto_10 : decode cX5_readInto 10 = .ok (.invokevirtual 28, 3) := by decide +kernel
theorem dX5_readInto_13 : decode cX5_readInto 13 = .ok (.iconst 0, 1) := by decide +kernel
theorem dX5_readInto_14 : decode cX5_readInto 14 = .ok (.istore_n 2, 1) := by decide +kernel
theorem dX5_readInto_15 : decode cX5_readInto 15 = .ok (.iload_n 2, 1) := by decide +kernel
theorem dX5_readInto_16 : decode cX5_readInto 16 = .ok (.aload_n 0, 1) := by decide +kernel
theorem dX5_readInto_17 : decode cX5_readInto 17 = .ok (.getfield 15, 3) := by decide +kernel
theorem dX5_readInto_20 : decode cX5_readInto 20 = .ok (.if_icmp .ge 34, 3) := by decide +kernel
theorem dX5_readInto_23 : decode cX5_readInto 23 = .ok (.iload_n 2, 1) := by decide +kernel
theorem dX5_readInto_24 : decode cX5_readInto 24 = .ok (.aload_n 0, 1) := by decide +kernel
theorem dX5_readInto_25 : decode cX5_readInto 25 = .ok (.getfield 9, 3) := by decide +kernel
theorem dX5_readInto_28 : decode cX5_readInto 28 = .ok (.arraylength, 1) := by decide +kernel
theorem dX5_readInto_29 : decode cX5_readInto 29 = .ok (.if_icmp .ge 25, 3) := by decide +kernel
theorem dX5_readInto_32 : decode cX5_readInto 32 = .ok (.aload_n 0, 1) := by decide +kernel
theorem dX5_readInto_33 : decode cX5_readInto 33 = .ok (.aload_n 0, 1) := by decide +kernel
theorem dX5_readInto_34 : decode cX5_readInto 34 = .ok (.getfield 9, 3) := by decide +kernel
theorem dX5_readInto_37 : decode cX5_readInto 37 = .ok (.iload_n 2, 1) := by decide +kernel
theorem dX5_readInto_38 : decode cX5_readInto 38 = .ok (.caload, 1) := by decide +kernel
theorem dX5_readInto_39 : decode cX5_readInto 39 = .ok (.aload_n 1, 1) := by decide +kernel
theorem dX5_readInto_40 : decode cX5_readInto 40 = .ok (.invokevirtual 31, 3) := by decide +kernel
theorem dX5_readInto_43 : decode cX5_readInto 43 = .ok (.ifCond .ne 5, 3) := by decide +kernel
theorem dX5_readInto_46 : decode cX5_readInto 46 = .ok (.iload_n 2, 1) := by decide +kernel
theorem dX5_readInto_47 : decode cX5_readInto 47 = .ok (.ireturn, 1) := by decide +kernel
theorem dX5_readInto_48 : decode cX5_readInto 48 = .ok (.iinc 2 1, 3) := by decide +kernel
theorem dX5_readInto_51 : decode cX5_readInto 51 = .ok (.goto (-36), 3) := by decide +kernel
theorem dX5_readInto_54 : decode cX5_readInto 54 = .ok (.aload_n 0, 1) := by decide +kernel
theorem dX5_readInto_55 : decode cX5_readInto 55 = .ok (.getfield 35, 3) := by decide +kernel
theorem dX5_readInto_58 : decode cX5_readInto 58 = .ok (.iconst 4, 1) := by decide +kernel
theorem dX5_readInto_59 : decode cX5_readInto 59 = .ok (.if_icmp .ne 7, 3) := by decide +kernel
theorem dX5_readInto_62 : decode cX5_readInto 62 = .ok (.iconst (-1), 1) := by decide +kernel
theorem dX5_readInto_63 : decode cX5_readInto 63 = .ok (.goto 7, 3) := by decide +kernel
theorem dX5_readInto_66 : decode cX5_readInto 66 = .ok (.aload_n 0, 1) := by decide +kernel
theorem dX5_readInto_67 : decode cX5_readInto 67 = .ok (.getfield 15, 3) := by decide +kernel
theorem dX5_readInto_70 : decode cX5_readInto 70 = .ok (.ireturn, 1) := by decide +kernel
theorem dX5_beginBoat_0 : decode cX5_beginBoat 0 = .ok (.aload_n 0, 1) := by decide +kernel
theorem dX5_beginBoat_1 : decode cX5_beginBoat 1 = .ok (.iconst 0, 1) := by decide +kernel
theorem dX5_beginBoat_2 : decode cX5_beginBoat 2 = .ok (.putfield 35, 3) := by decide +kernel
theorem dX5_beginBoat_5 : decode cX5_beginBoat 5 = .ok (.aload_n 0, 1) := by decide +kernel
theorem dX5_beginBoat_6 : decode cX5_beginBoat 6 = .ok (.iconst 0, 1) := by decide +kernel
theorem dX5_beginBoat_7 : decode cX5_beginBoat 7 = .ok (.putfield 38, 3) := by decide +kernel
theorem dX5_beginBoat_10 : decode cX5_beginBoat 10 = .ok (.aload_n 0, 1) := by decide +kernel
theorem dX5_beginBoat_11 : decode cX5_beginBoat 11 = .ok (.iconst 0, 1) := by decide +kernel
theorem dX5_beginBoat_12 : decode cX5_beginBoat 12 = .ok (.putfield 41, 3) := by decide +kernel
theorem dX5_beginBoat_15 : decode cX5_beginBoat 15 = .ok (.return_, 1) := by decide +kernel
theorem dX5_allows_0 : decode cX5_allows 0 = .ok (.aload_n 0, 1) := by decide +kernel
theorem dX5_allows_1 : decode cX5_allows 1 = .ok (.getfield 35, 3) := by decide +kernel
theorem dX5_allows_4 : decode cX5_allows 4 = .ok (.tableswitch 68 0 3 #[32, 38, 44, 61], 32) := by decide +kernel
theorem dX5_allows_36 : decode cX5_allows 36 = .ok (.aload_n 0, 1) := by decide +kernel
theorem dX5_allows_37 : decode cX5_allows 37 = .ok (.iload_n 1, 1) := by decide +kernel
theorem dX5_allows_38 : decode cX5_allows 38 = .ok (.invokevirtual 44, 3) := by decide +kernel
theorem dX5_allows_41 : decode cX5_allows 41 = .ok (.ireturn, 1) := by decide +kernel
theorem dX5_allows_42 : decode cX5_allows 42 = .ok (.aload_n 0, 1) := by decide +kernel
theorem dX5_allows_43 : decode cX5_allows 43 = .ok (.iload_n 1, 1) := by decide +kernel
theorem dX5_allows_44 : decode cX5_allows 44 = .ok (.invokevirtual 48, 3) := by decide +kernel
theorem dX5_allows_47 : decode cX5_allows 47 = .ok (.ireturn, 1) := by decide +kernel
theorem dX5_allows_48 : decode cX5_allows 48 = .ok (.aload_n 0, 1) := by decide +kernel
theorem dX5_allows_49 : decode cX5_allows 49 = .ok (.iconst 3, 1) := by decide +kernel
theorem dX5_allows_50 : decode cX5_allows 50 = .ok (.putfield 35, 3) := by decide +kernel
theorem dX5_allows_53 : decode cX5_allows 53 = .ok (.iload_n 1, 1) := by decide +kernel
theorem dX5_allows_54 : decode cX5_allows 54 = .ok (.bipush 120, 2) := by decide +kernel
theorem dX5_allows_56 : decode cX5_allows 56 = .ok (.if_icmp .ne 7, 3) := by decide +kernel
theorem dX5_allows_59 : decode cX5_allows 59 = .ok (.iconst 1, 1) := by decide +kernel
theorem dX5_allows_60 : decode cX5_allows 60 = .ok (.goto 4, 3) := by decide +kernel
theorem dX5_allows_63 : decode cX5_allows 63 = .ok (.iconst 0, 1) := by decide +kernel
theorem dX5_allows_64 : decode cX5_allows 64 = .ok (.ireturn, 1) := by decide +kernel
theorem dX5_allows_65 : decode cX5_allows 65 = .ok (.aload_n 0, 1) := by decide +kernel
theorem dX5_allows_66 : decode cX5_allows 66 = .ok (.iload_n 1, 1) := by decide +kernel
theorem dX5_allows_67 : decode cX5_allows 67 = .ok (.aload_n 2, 1) := by decide +kernel
theorem dX5_allows_68 : decode cX5_allows 68 = .ok (.invokevirtual 51, 3) := by decide +kernel
theorem dX5_allows_71 : decode cX5_allows 71 = .ok (.ireturn, 1) := by decide +kernel
theorem dX5_allows_72 : decode cX5_allows 72 = .ok (.aload_n 0, 1) := by decide +kernel
theorem dX5_allows_73 : decode cX5_allows 73 = .ok (.invokevirtual 28, 3) := by decide +kernel
theorem dX5_allows_76 : decode cX5_allows 76 = .ok (.iload_n 1, 1) := by decide +kernel
theorem dX5_allows_77 : decode cX5_allows 77 = .ok (.bipush 44, 2) := by decide +kernel
theorem dX5_allows_79 : decode cX5_allows 79 = .ok (.if_icmp .ne 7, 3) := by decide +kernel
theorem dX5_allows_82 : decode cX5_allows 82 = .ok (.iconst 1, 1) := by decide +kernel
theorem dX5_allows_83 : decode cX5_allows 83 = .ok (.goto 4, 3) := by decide +kernel
theorem dX5_allows_86 : decode cX5_allows 86 = .ok (.iconst 0, 1) := by decide +kernel
theorem dX5_allows_87 : decode cX5_allows 87 = .ok (.ireturn, 1) := by decide +kernel
theorem dX5_allowsInTick_0 : decode cX5_allowsInTick 0 = .ok (.iload_n 1, 1) := by decide +kernel
theorem dX5_allowsInTick_1 : decode cX5_allowsInTick 1 = .ok (.bipush 58, 2) := by decide +kernel
theorem dX5_allowsInTick_3 : decode cX5_allowsInTick 3 = .ok (.if_icmp .ne 21, 3) := by decide +kernel
theorem dX5_allowsInTick_6 : decode cX5_allowsInTick 6 = .ok (.aload_n 0, 1) := by decide +kernel
theorem dX5_allowsInTick_7 : decode cX5_allowsInTick 7 = .ok (.iconst 1, 1) := by decide +kernel
theorem dX5_allowsInTick_8 : decode cX5_allowsInTick 8 = .ok (.putfield 35, 3) := by decide +kernel
theorem dX5_allowsInTick_11 : decode cX5_allowsInTick 11 = .ok (.aload_n 0, 1) := by decide +kernel
theorem dX5_allowsInTick_12 : decode cX5_allowsInTick 12 = .ok (.getfield 38, 3) := by decide +kernel
theorem dX5_allowsInTick_15 : decode cX5_allowsInTick 15 = .ok (.ifCond .le 7, 3) := by decide +kernel
theorem dX5_allowsInTick_18 : decode cX5_allowsInTick 18 = .ok (.iconst 1, 1) := by decide +kernel
theorem dX5_allowsInTick_19 : decode cX5_allowsInTick 19 = .ok (.goto 4, 3) := by decide +kernel
theorem dX5_allowsInTick_22 : decode cX5_allowsInTick 22 = .ok (.iconst 0, 1) := by decide +kernel
theorem dX5_allowsInTick_23 : decode cX5_allowsInTick 23 = .ok (.ireturn, 1) := by decide +kernel
theorem dX5_allowsInTick_24 : decode cX5_allowsInTick 24 = .ok (.aload_n 0, 1) := by decide +kernel
theorem dX5_allowsInTick_25 : decode cX5_allowsInTick 25 = .ok (.getfield 38, 3) := by decide +kernel
theorem dX5_allowsInTick_28 : decode cX5_allowsInTick 28 = .ok (.ifCond .le 14, 3) := by decide +kernel
theorem dX5_allowsInTick_31 : decode cX5_allowsInTick 31 = .ok (.aload_n 0, 1) := by decide +kernel
theorem dX5_allowsInTick_32 : decode cX5_allowsInTick 32 = .ok (.getfield 41, 3) := by decide +kernel
theorem dX5_allowsInTick_35 : decode cX5_allowsInTick 35 = .ok (.ifCond .ne 7, 3) := by decide +kernel
theorem dX5_allowsInTick_38 : decode cX5_allowsInTick 38 = .ok (.iconst 1, 1) := by decide +kernel
theorem dX5_allowsInTick_39 : decode cX5_allowsInTick 39 = .ok (.goto 4, 3) := by decide +kernel
theorem dX5_allowsInTick_42 : decode cX5_allowsInTick 42 = .ok (.iconst 0, 1) := by decide +kernel
theorem dX5_allowsInTick_43 : decode cX5_allowsInTick 43 = .ok (.istore_n 2, 1) := by decide +kernel
theorem dX5_allowsInTick_44 : decode cX5_allowsInTick 44 = .ok (.iload_n 1, 1) := by decide +kernel
theorem dX5_allowsInTick_45 : decode cX5_allowsInTick 45 = .ok (.bipush 48, 2) := by decide +kernel
theorem dX5_allowsInTick_47 : decode cX5_allowsInTick 47 = .ok (.bipush 57, 2) := by decide +kernel
theorem dX5_allowsInTick_49 : decode cX5_allowsInTick 49 = .ok (.invokestatic 54, 3) := by decide +kernel
theorem dX5_allowsInTick_52 : decode cX5_allowsInTick 52 = .ok (.ifCond .eq 15, 3) := by decide +kernel
theorem dX5_allowsInTick_55 : decode cX5_allowsInTick 55 = .ok (.aload_n 0, 1) := by decide +kernel
theorem dX5_allowsInTick_56 : decode cX5_allowsInTick 56 = .ok (.getfield 38, 3) := by decide +kernel
theorem dX5_allowsInTick_59 : decode cX5_allowsInTick 59 = .ok (.iconst 4, 1) := by decide +kernel
theorem dX5_allowsInTick_60 : decode cX5_allowsInTick 60 = .ok (.if_icmp .ge 7, 3) := by decide +kernel
theorem dX5_allowsInTick_63 : decode cX5_allowsInTick 63 = .ok (.iload_n 2, 1) := by decide +kernel
theorem dX5_allowsInTick_64 : decode cX5_allowsInTick 64 = .ok (.ifCond .eq 5, 3) := by decide +kernel
theorem dX5_allowsInTick_67 : decode cX5_allowsInTick 67 = .ok (.iconst 0, 1) := by decide +kernel
theorem dX5_allowsInTick_68 : decode cX5_allowsInTick 68 = .ok (.ireturn, 1) := by decide +kernel
theorem dX5_allowsInTick_69 : decode cX5_allowsInTick 69 = .ok (.aload_n 0, 1) := by decide +kernel
theorem dX5_allowsInTick_70 : decode cX5_allowsInTick 70 = .ok (.bipush 10, 2) := by decide +kernel
theorem dX5_allowsInTick_72 : decode cX5_allowsInTick 72 = .ok (.aload_n 0, 1) := by decide +kernel
theorem dX5_allowsInTick_73 : decode cX5_allowsInTick 73 = .ok (.getfield 41, 3) := by decide +kernel
theorem dX5_allowsInTick_76 : decode cX5_allowsInTick 76 = .ok (.imul, 1) := by decide +kernel
theorem dX5_allowsInTick_77 : decode cX5_allowsInTick 77 = .ok (.iload_n 1, 1) := by decide +kernel
theorem dX5_allowsInTick_78 : decode cX5_allowsInTick 78 = .ok (.iadd, 1) := by decide +kernel
theorem dX5_allowsInTick_79 : decode cX5_allowsInTick 79 = .ok (.bipush 48, 2) := by decide +kernel
theorem dX5_allowsInTick_81 : decode cX5_allowsInTick 81 = .ok (.isub, 1) := by decide +kernel
theorem dX5_allowsInTick_82 : decode cX5_allowsInTick 82 = .ok (.putfield 41, 3) := by decide +kernel
theorem dX5_allowsInTick_85 : decode cX5_allowsInTick 85 = .ok (.aload_n 0, 1) := by decide +kernel
theorem dX5_allowsInTick_86 : decode cX5_allowsInTick 86 = .ok (.dup, 1) := by decide +kernel
theorem dX5_allowsInTick_87 : decode cX5_allowsInTick 87 = .ok (.getfield 38, 3) := by decide +kernel
theorem dX5_allowsInTick_90 : decode cX5_allowsInTick 90 = .ok (.iconst 1, 1) := by decide +kernel
theorem dX5_allowsInTick_91 : decode cX5_allowsInTick 91 = .ok (.iadd, 1) := by decide +kernel
theorem dX5_allowsInTick_92 : decode cX5_allowsInTick 92 = .ok (.putfield 38, 3) := by decide +kernel
theorem dX5_allowsInTick_95 : decode cX5_allowsInTick 95 = .ok (.iconst 1, 1) := by decide +kernel
theorem dX5_allowsInTick_96 : decode cX5_allowsInTick 96 = .ok (.ireturn, 1) := by decide +kernel
theorem dX5_allowsAsKind_0 : decode cX5_allowsAsKind 0 = .ok (.aload_n 0, 1) := by decide +kernel
theorem dX5_allowsAsKind_1 : decode cX5_allowsAsKind 1 = .ok (.iload_n 1, 1) := by decide +kernel
theorem dX5_allowsAsKind_2 : decode cX5_allowsAsKind 2 = .ok (.bipush 48, 2) := by decide +kernel
theorem dX5_allowsAsKind_4 : decode cX5_allowsAsKind 4 = .ok (.isub, 1) := by decide +kernel
theorem dX5_allowsAsKind_5 : decode cX5_allowsAsKind 5 = .ok (.putfield 58, 3) := by decide +kernel
theorem dX5_allowsAsKind_8 : decode cX5_allowsAsKind 8 = .ok (.aload_n 0, 1) := by decide +kernel
theorem dX5_allowsAsKind_9 : decode cX5_allowsAsKind 9 = .ok (.iconst 2, 1) := by decide +kernel
theorem dX5_allowsAsKind_10 : decode cX5_allowsAsKind 10 = .ok (.putfield 35, 3) := by decide +kernel
theorem dX5_allowsAsKind_13 : decode cX5_allowsAsKind 13 = .ok (.aload_n 0, 1) := by decide +kernel
theorem dX5_allowsAsKind_14 : decode cX5_allowsAsKind 14 = .ok (.getfield 58, 3) := by decide +kernel
theorem dX5_allowsAsKind_17 : decode cX5_allowsAsKind 17 = .ok (.invokestatic 61, 3) := by decide +kernel
theorem dX5_allowsAsKind_20 : decode cX5_allowsAsKind 20 = .ok (.ireturn, 1) := by decide +kernel
theorem dX5_allowsAsLoad_0 : decode cX5_allowsAsLoad 0 = .ok (.iload_n 1, 1) := by decide +kernel
theorem dX5_allowsAsLoad_1 : decode cX5_allowsAsLoad 1 = .ok (.bipush 48, 2) := by decide +kernel
theorem dX5_allowsAsLoad_3 : decode cX5_allowsAsLoad 3 = .ok (.isub, 1) := by decide +kernel
theorem dX5_allowsAsLoad_4 : decode cX5_allowsAsLoad 4 = .ok (.istore_n 3, 1) := by decide +kernel
theorem dX5_allowsAsLoad_5 : decode cX5_allowsAsLoad 5 = .ok (.iload_n 3, 1) := by decide +kernel
theorem dX5_allowsAsLoad_6 : decode cX5_allowsAsLoad 6 = .ok (.invokestatic 65, 3) := by decide +kernel
theorem dX5_allowsAsLoad_9 : decode cX5_allowsAsLoad 9 = .ok (.ifCond .ne 5, 3) := by decide +kernel
theorem dX5_allowsAsLoad_12 : decode cX5_allowsAsLoad 12 = .ok (.iconst 0, 1) := by decide +kernel
theorem dX5_allowsAsLoad_13 : decode cX5_allowsAsLoad 13 = .ok (.ireturn, 1) := by decide +kernel
theorem dX5_allowsAsLoad_14 : decode cX5_allowsAsLoad 14 = .ok (.aload_n 2, 1) := by decide +kernel
theorem dX5_allowsAsLoad_15 : decode cX5_allowsAsLoad 15 = .ok (.aload_n 0, 1) := by decide +kernel
theorem dX5_allowsAsLoad_16 : decode cX5_allowsAsLoad 16 = .ok (.getfield 41, 3) := by decide +kernel
theorem dX5_allowsAsLoad_19 : decode cX5_allowsAsLoad 19 = .ok (.invokevirtual 68, 3) := by decide +kernel
theorem dX5_allowsAsLoad_22 : decode cX5_allowsAsLoad 22 = .ok (.ifCond .eq 19, 3) := by decide +kernel
theorem dX5_allowsAsLoad_25 : decode cX5_allowsAsLoad 25 = .ok (.aload_n 2, 1) := by decide +kernel
theorem dX5_allowsAsLoad_26 : decode cX5_allowsAsLoad 26 = .ok (.aload_n 0, 1) := by decide +kernel
theorem dX5_allowsAsLoad_27 : decode cX5_allowsAsLoad 27 = .ok (.getfield 41, 3) := by decide +kernel
theorem dX5_allowsAsLoad_30 : decode cX5_allowsAsLoad 30 = .ok (.aload_n 0, 1) := by decide +kernel
theorem dX5_allowsAsLoad_31 : decode cX5_allowsAsLoad 31 = .ok (.getfield 58, 3) := by decide +kernel
theorem dX5_allowsAsLoad_34 : decode cX5_allowsAsLoad 34 = .ok (.iload_n 3, 1) := by decide +kernel
theorem dX5_allowsAsLoad_35 : decode cX5_allowsAsLoad 35 = .ok (.invokevirtual 71, 3) := by decide +kernel
theorem dX5_allowsAsLoad_38 : decode cX5_allowsAsLoad 38 = .ok (.goto 8, 3) := by decide +kernel
theorem dX5_allowsAsLoad_41 : decode cX5_allowsAsLoad 41 = .ok (.aload_n 0, 1) := by decide +kernel
theorem dX5_allowsAsLoad_42 : decode cX5_allowsAsLoad 42 = .ok (.iconst 1, 1) := by decide +kernel
theorem dX5_allowsAsLoad_43 : decode cX5_allowsAsLoad 43 = .ok (.putfield 24, 3) := by decide +kernel
theorem dX5_allowsAsLoad_46 : decode cX5_allowsAsLoad 46 = .ok (.aload_n 0, 1) := by decide +kernel
theorem dX5_allowsAsLoad_47 : decode cX5_allowsAsLoad 47 = .ok (.iconst 4, 1) := by decide +kernel
theorem dX5_allowsAsLoad_48 : decode cX5_allowsAsLoad 48 = .ok (.putfield 35, 3) := by decide +kernel
theorem dX5_allowsAsLoad_51 : decode cX5_allowsAsLoad 51 = .ok (.iconst 1, 1) := by decide +kernel
theorem dX5_allowsAsLoad_52 : decode cX5_allowsAsLoad 52 = .ok (.ireturn, 1) := by decide +kernel
theorem dX6_at_0 : decode cX6_at 0 = .ok (.iload_n 1, 1) := by decide +kernel
theorem dX6_at_1 : decode cX6_at 1 = .ok (.ifCond .lt 15, 3) := by decide +kernel
theorem dX6_at_4 : decode cX6_at 4 = .ok (.iload_n 1, 1) := by decide +kernel
theorem dX6_at_5 : decode cX6_at 5 = .ok (.aload_n 0, 1) := by decide +kernel
theorem dX6_at_6 : decode cX6_at 6 = .ok (.arraylength, 1) := by decide +kernel
theorem dX6_at_7 : decode cX6_at 7 = .ok (.if_icmp .ge 9, 3) := by decide +kernel
theorem dX6_at_10 : decode cX6_at 10 = .ok (.aload_n 0, 1) := by decide +kernel
theorem dX6_at_11 : decode cX6_at 11 = .ok (.iload_n 1, 1) := by decide +kernel
theorem dX6_at_12 : decode cX6_at 12 = .ok (.iaload, 1) := by decide +kernel
theorem dX6_at_13 : decode cX6_at 13 = .ok (.goto 4, 3) := by decide +kernel
theorem dX6_at_16 : decode cX6_at 16 = .ok (.iconst 0, 1) := by decide +kernel
theorem dX6_at_17 : decode cX6_at 17 = .ok (.ireturn, 1) := by decide +kernel
theorem dX6_write_0 : decode cX6_write 0 = .ok (.iload_n 1, 1) := by decide +kernel
theorem dX6_write_1 : decode cX6_write 1 = .ok (.ifCond .lt 13, 3) := by decide +kernel
theorem dX6_write_4 : decode cX6_write 4 = .ok (.iload_n 1, 1) := by decide +kernel
theorem dX6_write_5 : decode cX6_write 5 = .ok (.aload_n 0, 1) := by decide +kernel
theorem dX6_write_6 : decode cX6_write 6 = .ok (.arraylength, 1) := by decide +kernel
theorem dX6_write_7 : decode cX6_write 7 = .ok (.if_icmp .ge 7, 3) := by decide +kernel
theorem dX6_write_10 : decode cX6_write 10 = .ok (.aload_n 0, 1) := by decide +kernel
theorem dX6_write_11 : decode cX6_write 11 = .ok (.iload_n 1, 1) := by decide +kernel
theorem dX6_write_12 : decode cX6_write 12 = .ok (.iload_n 2, 1) := by decide +kernel
theorem dX6_write_13 : decode cX6_write 13 = .ok (.iastore, 1) := by decide +kernel
theorem dX6_write_14 : decode cX6_write 14 = .ok (.return_, 1) := by decide +kernel
theorem dX6_copy_0 : decode cX6_copy 0 = .ok (.aload_n 0, 1) := by decide +kernel
theorem dX6_copy_1 : decode cX6_copy 1 = .ok (.iconst 0, 1) := by decide +kernel
theorem dX6_copy_2 : decode cX6_copy 2 = .ok (.aload_n 1, 1) := by decide +kernel
theorem dX6_copy_3 : decode cX6_copy 3 = .ok (.iconst 0, 1) := by decide +kernel
theorem dX6_copy_4 : decode cX6_copy 4 = .ok (.aload_n 0, 1) := by decide +kernel
theorem dX6_copy_5 : decode cX6_copy 5 = .ok (.arraylength, 1) := by decide +kernel
theorem dX6_copy_6 : decode cX6_copy 6 = .ok (.aload_n 1, 1) := by decide +kernel
theorem dX6_copy_7 : decode cX6_copy 7 = .ok (.arraylength, 1) := by decide +kernel
theorem dX6_copy_8 : decode cX6_copy 8 = .ok (.invokestatic 7, 3) := by decide +kernel
theorem dX6_copy_11 : decode cX6_copy 11 = .ok (.invokestatic 13, 3) := by decide +kernel
theorem dX6_copy_14 : decode cX6_copy 14 = .ok (.return_, 1) := by decide +kernel
theorem dX7_init_0 : decode cX7_init 0 = .ok (.aload_n 0, 1) := by decide +kernel
theorem dX7_init_1 : decode cX7_init 1 = .ok (.invokespecial 3, 3) := by decide +kernel
theorem dX7_init_4 : decode cX7_init 4 = .ok (.aload_n 0, 1) := by decide +kernel
theorem dX7_init_5 : decode cX7_init 5 = .ok (.bipush 6, 2) := by decide +kernel
theorem dX7_init_7 : decode cX7_init 7 = .ok (.anewarray 9, 3) := by decide +kernel
theorem dX7_init_10 : decode cX7_init 10 = .ok (.putfield 11, 3) := by decide +kernel
theorem dX7_init_13 : decode cX7_init 13 = .ok (.iconst 0, 1) := by decide +kernel
theorem dX7_init_14 : decode cX7_init 14 = .ok (.istore_n 1, 1) := by decide +kernel
theorem dX7_init_15 : decode cX7_init 15 = .ok (.iload_n 1, 1) := by decide +kernel
theorem dX7_init_16 : decode cX7_init 16 = .ok (.aload_n 0, 1) := by decide +kernel
theorem dX7_init_17 : decode cX7_init 17 = .ok (.getfield 11, 3) := by decide +kernel
theorem dX7_init_20 : decode cX7_init 20 = .ok (.arraylength, 1) := by decide +kernel
theorem dX7_init_21 : decode cX7_init 21 = .ok (.if_icmp .ge 22, 3) := by decide +kernel
theorem dX7_init_24 : decode cX7_init 24 = .ok (.aload_n 0, 1) := by decide +kernel
theorem dX7_init_25 : decode cX7_init 25 = .ok (.getfield 11, 3) := by decide +kernel
theorem dX7_init_28 : decode cX7_init 28 = .ok (.iload_n 1, 1) := by decide +kernel
theorem dX7_init_29 : decode cX7_init 29 = .ok (.new 9, 3) := by decide +kernel
theorem dX7_init_32 : decode cX7_init 32 = .ok (.dup, 1) := by decide +kernel
theorem dX7_init_33 : decode cX7_init 33 = .ok (.invokespecial 17, 3) := by decide +kernel
theorem dX7_init_36 : decode cX7_init 36 = .ok (.aastore, 1) := by decide +kernel
theorem dX7_init_37 : decode cX7_init 37 = .ok (.iinc 1 1, 3) := by decide +kernel
theorem dX7_init_40 : decode cX7_init 40 = .ok (.goto (-25), 3) := by decide +kernel
theorem dX7_init_43 : decode cX7_init 43 = .ok (.aload_n 0, 1) := by decide +kernel
theorem dX7_init_44 : decode cX7_init 44 = .ok (.new 9, 3) := by decide +kernel
theorem dX7_init_47 : decode cX7_init 47 = .ok (.dup, 1) := by decide +kernel
theorem dX7_init_48 : decode cX7_init 48 = .ok (.invokespecial 17, 3) := by decide +kernel
theorem dX7_init_51 : decode cX7_init 51 = .ok (.putfield 18, 3) := by decide +kernel
theorem dX7_init_54 : decode cX7_init 54 = .ok (.aload_n 0, 1) := by decide +kernel
theorem dX7_init_55 : decode cX7_init 55 = .ok (.bipush (-5), 2) := by decide +kernel
theorem dX7_init_57 : decode cX7_init 57 = .ok (.putfield 22, 3) := by decide +kernel
theorem dX7_init_60 : decode cX7_init 60 = .ok (.return_, 1) := by decide +kernel
theorem dX7_copyFrom_0 : decode cX7_copyFrom 0 = .ok (.iconst 0, 1) := by decide +kernel
theorem dX7_copyFrom_1 : decode cX7_copyFrom 1 = .ok (.istore_n 2, 1) := by decide +kernel
theorem dX7_copyFrom_2 : decode cX7_copyFrom 2 = .ok (.iload_n 2, 1) := by decide +kernel
theorem dX7_copyFrom_3 : decode cX7_copyFrom 3 = .ok (.bipush 6, 2) := by decide +kernel
theorem dX7_copyFrom_5 : decode cX7_copyFrom 5 = .ok (.if_icmp .ge 22, 3) := by decide +kernel
theorem dX7_copyFrom_8 : decode cX7_copyFrom 8 = .ok (.aload_n 0, 1) := by decide +kernel
theorem dX7_copyFrom_9 : decode cX7_copyFrom 9 = .ok (.iload_n 2, 1) := by decide +kernel
theorem dX7_copyFrom_10 : decode cX7_copyFrom 10 = .ok (.invokevirtual 26, 3) := by decide +kernel
theorem dX7_copyFrom_13 : decode cX7_copyFrom 13 = .ok (.aload_n 1, 1) := by decide +kernel
theorem dX7_copyFrom_14 : decode cX7_copyFrom 14 = .ok (.iload_n 2, 1) := by decide +kernel
theorem dX7_copyFrom_15 : decode cX7_copyFrom 15 = .ok (.invokevirtual 26, 3) := by decide +kernel
theorem dX7_copyFrom_18 : decode cX7_copyFrom 18 = .ok (.invokevirtual 30, 3) := by decide +kernel
theorem dX7_copyFrom_21 : decode cX7_copyFrom 21 = .ok (.iinc 2 1, 3) := by decide +kernel
theorem dX7_copyFrom_24 : decode cX7_copyFrom 24 = .ok (.goto (-22), 3) := by decide +kernel
theorem dX7_copyFrom_27 : decode cX7_copyFrom 27 = .ok (.aload_n 0, 1) := by decide +kernel
theorem dX7_copyFrom_28 : decode cX7_copyFrom 28 = .ok (.aload_n 1, 1) := by decide +kernel
theorem dX7_copyFrom_29 : decode cX7_copyFrom 29 = .ok (.getfield 34, 3) := by decide +kernel
theorem dX7_copyFrom_32 : decode cX7_copyFrom 32 = .ok (.putfield 34, 3) := by decide +kernel
theorem dX7_copyFrom_35 : decode cX7_copyFrom 35 = .ok (.aload_n 0, 1) := by decide +kernel
theorem dX7_copyFrom_36 : decode cX7_copyFrom 36 = .ok (.aload_n 1, 1) := by decide +kernel
theorem dX7_copyFrom_37 : decode cX7_copyFrom 37 = .ok (.getfield 22, 3) := by decide +kernel
theorem dX7_copyFrom_40 : decode cX7_copyFrom 40 = .ok (.putfield 22, 3) := by decide +kernel
theorem dX7_copyFrom_43 : decode cX7_copyFrom 43 = .ok (.aload_n 0, 1) := by decide +kernel
end
section
theorem dX7_copyFrom_44 : decode cX7_copyFrom 44 = .ok (.aload_n 1, 1) := by decide +kernel
theorem dX7_copyFrom_45 : decode cX7_copyFrom 45 = .ok (.getfield 37, 3) := by decide +kernel
theorem dX7_copyFrom_48 : decode cX7_copyFrom 48 = .ok (.putfield 37, 3) := by decide +kernel
theorem dX7_copyFrom_51 : decode cX7_copyFrom 51 = .ok (.aload_n 0, 1) := by decide +kernel
theorem dX7_copyFrom_52 : decode cX7_copyFrom 52 = .ok (.aload_n 1, 1) := by decide +kernel
theorem dX7_copyFrom_53 : decode cX7_copyFrom 53 = .ok (.getfield 40, 3) := by decide +kernel
theorem dX7_copyFrom_56 : decode cX7_copyFrom 56 = .ok (.putfield 40, 3) := by decide +kernel
theorem dX7_copyFrom_59 : decode cX7_copyFrom 59 = .ok (.return_, 1) := by decide +kernel
theorem dX7_lampAt_0 : decode cX7_lampAt 0 = .ok (.iload_n 1, 1) := by decide +kernel
theorem dX7_lampAt_1 : decode cX7_lampAt 1 = .ok (.ifCond .lt 12, 3) := by decide +kernel
theorem dX7_lampAt_4 : decode cX7_lampAt 4 = .ok (.iload_n 1, 1) := by decide +kernel
theorem dX7_lampAt_5 : decode cX7_lampAt 5 = .ok (.aload_n 0, 1) := by decide +kernel
theorem dX7_lampAt_6 : decode cX7_lampAt 6 = .ok (.getfield 11, 3) := by decide +kernel
theorem dX7_lampAt_9 : decode cX7_lampAt 9 = .ok (.arraylength, 1) := by decide +kernel
theorem dX7_lampAt_10 : decode cX7_lampAt 10 = .ok (.if_icmp .lt 8, 3) := by decide +kernel
theorem dX7_lampAt_13 : decode cX7_lampAt 13 = .ok (.aload_n 0, 1) := by decide +kernel
theorem dX7_lampAt_14 : decode cX7_lampAt 14 = .ok (.getfield 18, 3) := by decide +kernel
theorem dX7_lampAt_17 : decode cX7_lampAt 17 = .ok (.areturn, 1) := by decide +kernel
theorem dX7_lampAt_18 : decode cX7_lampAt 18 = .ok (.aload_n 0, 1) := by decide +kernel
theorem dX7_lampAt_19 : decode cX7_lampAt 19 = .ok (.getfield 11, 3) := by decide +kernel
theorem dX7_lampAt_22 : decode cX7_lampAt 22 = .ok (.iload_n 1, 1) := by decide +kernel
theorem dX7_lampAt_23 : decode cX7_lampAt 23 = .ok (.aaload, 1) := by decide +kernel
theorem dX7_lampAt_24 : decode cX7_lampAt 24 = .ok (.astore_n 2, 1) := by decide +kernel
theorem dX7_lampAt_25 : decode cX7_lampAt 25 = .ok (.aload_n 2, 1) := by decide +kernel
theorem dX7_lampAt_26 : decode cX7_lampAt 26 = .ok (.ifnonnull 10, 3) := by decide +kernel
theorem dX7_lampAt_29 : decode cX7_lampAt 29 = .ok (.aload_n 0, 1) := by decide +kernel
theorem dX7_lampAt_30 : decode cX7_lampAt 30 = .ok (.getfield 18, 3) := by decide +kernel
theorem dX7_lampAt_33 : decode cX7_lampAt 33 = .ok (.goto 4, 3) := by decide +kernel
theorem dX7_lampAt_36 : decode cX7_lampAt 36 = .ok (.aload_n 2, 1) := by decide +kernel
theorem dX7_lampAt_37 : decode cX7_lampAt 37 = .ok (.areturn, 1) := by decide +kernel
theorem dX7_burnsAt_0 : decode cX7_burnsAt 0 = .ok (.aload_n 0, 1) := by decide +kernel
theorem dX7_burnsAt_1 : decode cX7_burnsAt 1 = .ok (.getfield 40, 3) := by decide +kernel
theorem dX7_burnsAt_4 : decode cX7_burnsAt 4 = .ok (.ifCond .eq 15, 3) := by decide +kernel
theorem dX7_burnsAt_7 : decode cX7_burnsAt 7 = .ok (.aload_n 0, 1) := by decide +kernel
theorem dX7_burnsAt_8 : decode cX7_burnsAt 8 = .ok (.getfield 34, 3) := by decide +kernel
theorem dX7_burnsAt_11 : decode cX7_burnsAt 11 = .ok (.iload_n 1, 1) := by decide +kernel
theorem dX7_burnsAt_12 : decode cX7_burnsAt 12 = .ok (.if_icmp .ne 7, 3) := by decide +kernel
theorem dX7_burnsAt_15 : decode cX7_burnsAt 15 = .ok (.iconst 1, 1) := by decide +kernel
theorem dX7_burnsAt_16 : decode cX7_burnsAt 16 = .ok (.goto 4, 3) := by decide +kernel
theorem dX7_burnsAt_19 : decode cX7_burnsAt 19 = .ok (.iconst 0, 1) := by decide +kernel
theorem dX7_burnsAt_20 : decode cX7_burnsAt 20 = .ok (.ireturn, 1) := by decide +kernel
theorem dX7_isTurning_0 : decode cX7_isTurning 0 = .ok (.aload_n 0, 1) := by decide +kernel
theorem dX7_isTurning_1 : decode cX7_isTurning 1 = .ok (.getfield 22, 3) := by decide +kernel
theorem dX7_isTurning_4 : decode cX7_isTurning 4 = .ok (.bipush (-5), 2) := by decide +kernel
theorem dX7_isTurning_6 : decode cX7_isTurning 6 = .ok (.if_icmp .eq 7, 3) := by decide +kernel
theorem dX7_isTurning_9 : decode cX7_isTurning 9 = .ok (.iconst 1, 1) := by decide +kernel
theorem dX7_isTurning_10 : decode cX7_isTurning 10 = .ok (.goto 4, 3) := by decide +kernel
theorem dX7_isTurning_13 : decode cX7_isTurning 13 = .ok (.iconst 0, 1) := by decide +kernel
theorem dX7_isTurning_14 : decode cX7_isTurning 14 = .ok (.ireturn, 1) := by decide +kernel
theorem dX7_startTurn_0 : decode cX7_startTurn 0 = .ok (.aload_n 0, 1) := by decide +kernel
theorem dX7_startTurn_1 : decode cX7_startTurn 1 = .ok (.iconst 0, 1) := by decide +kernel
theorem dX7_startTurn_2 : decode cX7_startTurn 2 = .ok (.putfield 40, 3) := by decide +kernel
theorem dX7_startTurn_5 : decode cX7_startTurn 5 = .ok (.aload_n 0, 1) := by decide +kernel
theorem dX7_startTurn_6 : decode cX7_startTurn 6 = .ok (.iload_n 1, 1) := by decide +kernel
theorem dX7_startTurn_7 : decode cX7_startTurn 7 = .ok (.putfield 22, 3) := by decide +kernel
theorem dX7_startTurn_10 : decode cX7_startTurn 10 = .ok (.aload_n 0, 1) := by decide +kernel
theorem dX7_startTurn_11 : decode cX7_startTurn 11 = .ok (.iload_n 1, 1) := by decide +kernel
theorem dX7_startTurn_12 : decode cX7_startTurn 12 = .ok (.aload_n 0, 1) := by decide +kernel
theorem dX7_startTurn_13 : decode cX7_startTurn 13 = .ok (.getfield 34, 3) := by decide +kernel
theorem dX7_startTurn_16 : decode cX7_startTurn 16 = .ok (.isub, 1) := by decide +kernel
theorem dX7_startTurn_17 : decode cX7_startTurn 17 = .ok (.bipush 6, 2) := by decide +kernel
theorem dX7_startTurn_19 : decode cX7_startTurn 19 = .ok (.invokestatic 44, 3) := by decide +kernel
theorem dX7_startTurn_22 : decode cX7_startTurn 22 = .ok (.iload_n 2, 1) := by decide +kernel
theorem dX7_startTurn_23 : decode cX7_startTurn 23 = .ok (.imul, 1) := by decide +kernel
theorem dX7_startTurn_24 : decode cX7_startTurn 24 = .ok (.putfield 37, 3) := by decide +kernel
theorem dX7_startTurn_27 : decode cX7_startTurn 27 = .ok (.return_, 1) := by decide +kernel
theorem dX7_goOn_0 : decode cX7_goOn 0 = .ok (.aload_n 0, 1) := by decide +kernel
theorem dX7_goOn_1 : decode cX7_goOn 1 = .ok (.invokevirtual 50, 3) := by decide +kernel
theorem dX7_goOn_4 : decode cX7_goOn 4 = .ok (.ifCond .ne 4, 3) := by decide +kernel
theorem dX7_goOn_7 : decode cX7_goOn 7 = .ok (.return_, 1) := by decide +kernel
theorem dX7_goOn_8 : decode cX7_goOn 8 = .ok (.aload_n 0, 1) := by decide +kernel
theorem dX7_goOn_9 : decode cX7_goOn 9 = .ok (.dup, 1) := by decide +kernel
theorem dX7_goOn_10 : decode cX7_goOn 10 = .ok (.getfield 37, 3) := by decide +kernel
theorem dX7_goOn_13 : decode cX7_goOn 13 = .ok (.iconst 1, 1) := by decide +kernel
theorem dX7_goOn_14 : decode cX7_goOn 14 = .ok (.isub, 1) := by decide +kernel
theorem dX7_goOn_15 : decode cX7_goOn 15 = .ok (.putfield 37, 3) := by decide +kernel
theorem dX7_goOn_18 : decode cX7_goOn 18 = .ok (.aload_n 0, 1) := by decide +kernel
theorem dX7_goOn_19 : decode cX7_goOn 19 = .ok (.getfield 37, 3) := by decide +kernel
theorem dX7_goOn_22 : decode cX7_goOn 22 = .ok (.ifCond .gt 22, 3) := by decide +kernel
theorem dX7_goOn_25 : decode cX7_goOn 25 = .ok (.aload_n 0, 1) := by decide +kernel
theorem dX7_goOn_26 : decode cX7_goOn 26 = .ok (.iconst 0, 1) := by decide +kernel
theorem dX7_goOn_27 : decode cX7_goOn 27 = .ok (.putfield 37, 3) := by decide +kernel
theorem dX7_goOn_30 : decode cX7_goOn 30 = .ok (.aload_n 0, 1) := by decide +kernel
theorem dX7_goOn_31 : decode cX7_goOn 31 = .ok (.aload_n 0, 1) := by decide +kernel
theorem dX7_goOn_32 : decode cX7_goOn 32 = .ok (.getfield 22, 3) := by decide +kernel
theorem dX7_goOn_35 : decode cX7_goOn 35 = .ok (.putfield 34, 3) := by decide +kernel
theorem dX7_goOn_38 : decode cX7_goOn 38 = .ok (.aload_n 0, 1) := by decide +kernel
theorem dX7_goOn_39 : decode cX7_goOn 39 = .ok (.bipush (-5), 2) := by decide +kernel
theorem dX7_goOn_41 : decode cX7_goOn 41 = .ok (.putfield 22, 3) := by decide +kernel
theorem dX7_goOn_44 : decode cX7_goOn 44 = .ok (.return_, 1) := by decide +kernel
theorem dX7_nextSocket_0 : decode cX7_nextSocket 0 = .ok (.bipush (-5), 2) := by decide +kernel
theorem dX7_nextSocket_2 : decode cX7_nextSocket 2 = .ok (.istore_n 1, 1) := by decide +kernel
theorem dX7_nextSocket_3 : decode cX7_nextSocket 3 = .ok (.iconst 1, 1) := by decide +kernel
theorem dX7_nextSocket_4 : decode cX7_nextSocket 4 = .ok (.istore_n 2, 1) := by decide +kernel
theorem dX7_nextSocket_5 : decode cX7_nextSocket 5 = .ok (.iload_n 2, 1) := by decide +kernel
theorem dX7_nextSocket_6 : decode cX7_nextSocket 6 = .ok (.bipush 6, 2) := by decide +kernel
theorem dX7_nextSocket_8 : decode cX7_nextSocket 8 = .ok (.if_icmp .gt 52, 3) := by decide +kernel
theorem dX7_nextSocket_11 : decode cX7_nextSocket 11 = .ok (.aload_n 0, 1) := by decide +kernel
theorem dX7_nextSocket_12 : decode cX7_nextSocket 12 = .ok (.getfield 34, 3) := by decide +kernel
theorem dX7_nextSocket_15 : decode cX7_nextSocket 15 = .ok (.iload_n 2, 1) := by decide +kernel
theorem dX7_nextSocket_16 : decode cX7_nextSocket 16 = .ok (.iadd, 1) := by decide +kernel
theorem dX7_nextSocket_17 : decode cX7_nextSocket 17 = .ok (.bipush 6, 2) := by decide +kernel
theorem dX7_nextSocket_19 : decode cX7_nextSocket 19 = .ok (.irem, 1) := by decide +kernel
theorem dX7_nextSocket_20 : decode cX7_nextSocket 20 = .ok (.istore_n 3, 1) := by decide +kernel
theorem dX7_nextSocket_21 : decode cX7_nextSocket 21 = .ok (.aload_n 0, 1) := by decide +kernel
theorem dX7_nextSocket_22 : decode cX7_nextSocket 22 = .ok (.iload_n 3, 1) := by decide +kernel
theorem dX7_nextSocket_23 : decode cX7_nextSocket 23 = .ok (.invokevirtual 26, 3) := by decide +kernel
theorem dX7_nextSocket_26 : decode cX7_nextSocket 26 = .ok (.astore 4, 2) := by decide +kernel
theorem dX7_nextSocket_28 : decode cX7_nextSocket 28 = .ok (.aload 4, 2) := by decide +kernel
theorem dX7_nextSocket_30 : decode cX7_nextSocket 30 = .ok (.invokevirtual 54, 3) := by decide +kernel
theorem dX7_nextSocket_33 : decode cX7_nextSocket 33 = .ok (.ifCond .eq 5, 3) := by decide +kernel
theorem dX7_nextSocket_36 : decode cX7_nextSocket 36 = .ok (.iload_n 3, 1) := by decide +kernel
theorem dX7_nextSocket_37 : decode cX7_nextSocket 37 = .ok (.ireturn, 1) := by decide +kernel
theorem dX7_nextSocket_38 : decode cX7_nextSocket 38 = .ok (.iload_n 1, 1) := by decide +kernel
theorem dX7_nextSocket_39 : decode cX7_nextSocket 39 = .ok (.bipush (-5), 2) := by decide +kernel
theorem dX7_nextSocket_41 : decode cX7_nextSocket 41 = .ok (.if_icmp .ne 13, 3) := by decide +kernel
theorem dX7_nextSocket_44 : decode cX7_nextSocket 44 = .ok (.aload 4, 2) := by decide +kernel
theorem dX7_nextSocket_46 : decode cX7_nextSocket 46 = .ok (.invokevirtual 57, 3) := by decide +kernel
theorem dX7_nextSocket_49 : decode cX7_nextSocket 49 = .ok (.ifCond .eq 5, 3) := by decide +kernel
theorem dX7_nextSocket_52 : decode cX7_nextSocket 52 = .ok (.iload_n 3, 1) := by decide +kernel
theorem dX7_nextSocket_53 : decode cX7_nextSocket 53 = .ok (.istore_n 1, 1) := by decide +kernel
theorem dX7_nextSocket_54 : decode cX7_nextSocket 54 = .ok (.iinc 2 1, 3) := by decide +kernel
theorem dX7_nextSocket_57 : decode cX7_nextSocket 57 = .ok (.goto (-52), 3) := by decide +kernel
theorem dX7_nextSocket_60 : decode cX7_nextSocket 60 = .ok (.iload_n 1, 1) := by decide +kernel
theorem dX7_nextSocket_61 : decode cX7_nextSocket 61 = .ok (.ireturn, 1) := by decide +kernel
theorem dX7_socketOfRank_0 : decode cX7_socketOfRank 0 = .ok (.iconst 0, 1) := by decide +kernel
theorem dX7_socketOfRank_1 : decode cX7_socketOfRank 1 = .ok (.istore_n 2, 1) := by decide +kernel
theorem dX7_socketOfRank_2 : decode cX7_socketOfRank 2 = .ok (.iload_n 2, 1) := by decide +kernel
theorem dX7_socketOfRank_3 : decode cX7_socketOfRank 3 = .ok (.bipush 6, 2) := by decide +kernel
theorem dX7_socketOfRank_5 : decode cX7_socketOfRank 5 = .ok (.if_icmp .ge 31, 3) := by decide +kernel
theorem dX7_socketOfRank_8 : decode cX7_socketOfRank 8 = .ok (.aload_n 0, 1) := by decide +kernel
theorem dX7_socketOfRank_9 : decode cX7_socketOfRank 9 = .ok (.iload_n 2, 1) := by decide +kernel
theorem dX7_socketOfRank_10 : decode cX7_socketOfRank 10 = .ok (.invokevirtual 26, 3) := by decide +kernel
theorem dX7_socketOfRank_13 : decode cX7_socketOfRank 13 = .ok (.invokevirtual 57, 3) := by decide +kernel
theorem dX7_socketOfRank_16 : decode cX7_socketOfRank 16 = .ok (.ifCond .eq 14, 3) := by decide +kernel
theorem dX7_socketOfRank_19 : decode cX7_socketOfRank 19 = .ok (.aload_n 0, 1) := by decide +kernel
theorem dX7_socketOfRank_20 : decode cX7_socketOfRank 20 = .ok (.iload_n 2, 1) := by decide +kernel
theorem dX7_socketOfRank_21 : decode cX7_socketOfRank 21 = .ok (.invokevirtual 60, 3) := by decide +kernel
theorem dX7_socketOfRank_24 : decode cX7_socketOfRank 24 = .ok (.iload_n 1, 1) := by decide +kernel
theorem dX7_socketOfRank_25 : decode cX7_socketOfRank 25 = .ok (.if_icmp .ne 5, 3) := by decide +kernel
theorem dX7_socketOfRank_28 : decode cX7_socketOfRank 28 = .ok (.iload_n 2, 1) := by decide +kernel
theorem dX7_socketOfRank_29 : decode cX7_socketOfRank 29 = .ok (.ireturn, 1) := by decide +kernel
theorem dX7_socketOfRank_30 : decode cX7_socketOfRank 30 = .ok (.iinc 2 1, 3) := by decide +kernel
theorem dX7_socketOfRank_33 : decode cX7_socketOfRank 33 = .ok (.goto (-31), 3) := by decide +kernel
theorem dX7_socketOfRank_36 : decode cX7_socketOfRank 36 = .ok (.bipush (-5), 2) := by decide +kernel
theorem dX7_socketOfRank_38 : decode cX7_socketOfRank 38 = .ok (.ireturn, 1) := by decide +kernel
theorem dX7_usableOnesAheadOf_0 : decode cX7_usableOnesAheadOf 0 = .ok (.aload_n 0, 1) := by decide +kernel
theorem dX7_usableOnesAheadOf_1 : decode cX7_usableOnesAheadOf 1 = .ok (.iload_n 1, 1) := by decide +kernel
theorem dX7_usableOnesAheadOf_2 : decode cX7_usableOnesAheadOf 2 = .ok (.invokevirtual 26, 3) := by decide +kernel
theorem dX7_usableOnesAheadOf_5 : decode cX7_usableOnesAheadOf 5 = .ok (.invokevirtual 64, 3) := by decide +kernel
theorem dX7_usableOnesAheadOf_8 : decode cX7_usableOnesAheadOf 8 = .ok (.istore_n 2, 1) := by decide +kernel
theorem dX7_usableOnesAheadOf_9 : decode cX7_usableOnesAheadOf 9 = .ok (.iconst 0, 1) := by decide +kernel
theorem dX7_usableOnesAheadOf_10 : decode cX7_usableOnesAheadOf 10 = .ok (.istore_n 3, 1) := by decide +kernel
theorem dX7_usableOnesAheadOf_11 : decode cX7_usableOnesAheadOf 11 = .ok (.iconst 0, 1) := by decide +kernel
theorem dX7_usableOnesAheadOf_12 : decode cX7_usableOnesAheadOf 12 = .ok (.istore 4, 2) := by decide +kernel
theorem dX7_usableOnesAheadOf_14 : decode cX7_usableOnesAheadOf 14 = .ok (.iload 4, 2) := by decide +kernel
theorem dX7_usableOnesAheadOf_16 : decode cX7_usableOnesAheadOf 16 = .ok (.bipush 6, 2) := by decide +kernel
theorem dX7_usableOnesAheadOf_18 : decode cX7_usableOnesAheadOf 18 = .ok (.if_icmp .ge 64, 3) := by decide +kernel
theorem dX7_usableOnesAheadOf_21 : decode cX7_usableOnesAheadOf 21 = .ok (.aload_n 0, 1) := by decide +kernel
theorem dX7_usableOnesAheadOf_22 : decode cX7_usableOnesAheadOf 22 = .ok (.iload 4, 2) := by decide +kernel
theorem dX7_usableOnesAheadOf_24 : decode cX7_usableOnesAheadOf 24 = .ok (.invokevirtual 26, 3) := by decide +kernel
theorem dX7_usableOnesAheadOf_27 : decode cX7_usableOnesAheadOf 27 = .ok (.astore 5, 2) := by decide +kernel
theorem dX7_usableOnesAheadOf_29 : decode cX7_usableOnesAheadOf 29 = .ok (.aload 5, 2) := by decide +kernel
theorem dX7_usableOnesAheadOf_31 : decode cX7_usableOnesAheadOf 31 = .ok (.invokevirtual 64, 3) := by decide +kernel
theorem dX7_usableOnesAheadOf_34 : decode cX7_usableOnesAheadOf 34 = .ok (.iload_n 2, 1) := by decide +kernel
theorem dX7_usableOnesAheadOf_35 : decode cX7_usableOnesAheadOf 35 = .ok (.if_icmp .gt 18, 3) := by decide +kernel
theorem dX7_usableOnesAheadOf_38 : decode cX7_usableOnesAheadOf 38 = .ok (.aload 5, 2) := by decide +kernel
theorem dX7_usableOnesAheadOf_40 : decode cX7_usableOnesAheadOf 40 = .ok (.invokevirtual 64, 3) := by decide +kernel
theorem dX7_usableOnesAheadOf_43 : decode cX7_usableOnesAheadOf 43 = .ok (.iload_n 2, 1) := by decide +kernel
theorem dX7_usableOnesAheadOf_44 : decode cX7_usableOnesAheadOf 44 = .ok (.if_icmp .ne 13, 3) := by decide +kernel
theorem dX7_usableOnesAheadOf_47 : decode cX7_usableOnesAheadOf 47 = .ok (.iload 4, 2) := by decide +kernel
theorem dX7_usableOnesAheadOf_49 : decode cX7_usableOnesAheadOf 49 = .ok (.iload_n 1, 1) := by decide +kernel
theorem dX7_usableOnesAheadOf_50 : decode cX7_usableOnesAheadOf 50 = .ok (.if_icmp .ge 7, 3) := by decide +kernel
theorem dX7_usableOnesAheadOf_53 : decode cX7_usableOnesAheadOf 53 = .ok (.iconst 1, 1) := by decide +kernel
theorem dX7_usableOnesAheadOf_54 : decode cX7_usableOnesAheadOf 54 = .ok (.goto 4, 3) := by decide +kernel
theorem dX7_usableOnesAheadOf_57 : decode cX7_usableOnesAheadOf 57 = .ok (.iconst 0, 1) := by decide +kernel
theorem dX7_usableOnesAheadOf_58 : decode cX7_usableOnesAheadOf 58 = .ok (.istore 6, 2) := by decide +kernel
theorem dX7_usableOnesAheadOf_60 : decode cX7_usableOnesAheadOf 60 = .ok (.aload 5, 2) := by decide +kernel
theorem dX7_usableOnesAheadOf_62 : decode cX7_usableOnesAheadOf 62 = .ok (.invokevirtual 57, 3) := by decide +kernel
theorem dX7_usableOnesAheadOf_65 : decode cX7_usableOnesAheadOf 65 = .ok (.ifCond .eq 11, 3) := by decide +kernel
theorem dX7_usableOnesAheadOf_68 : decode cX7_usableOnesAheadOf 68 = .ok (.iload 6, 2) := by decide +kernel
theorem dX7_usableOnesAheadOf_70 : decode cX7_usableOnesAheadOf 70 = .ok (.ifCond .eq 6, 3) := by decide +kernel
theorem dX7_usableOnesAheadOf_73 : decode cX7_usableOnesAheadOf 73 = .ok (.iinc 3 1, 3) := by decide +kernel
theorem dX7_usableOnesAheadOf_76 : decode cX7_usableOnesAheadOf 76 = .ok (.iinc 4 1, 3) := by decide +kernel
theorem dX7_usableOnesAheadOf_79 : decode cX7_usableOnesAheadOf 79 = .ok (.goto (-65), 3) := by decide +kernel
theorem dX7_usableOnesAheadOf_82 : decode cX7_usableOnesAheadOf 82 = .ok (.iload_n 3, 1) := by decide +kernel
theorem dX7_usableOnesAheadOf_83 : decode cX7_usableOnesAheadOf 83 = .ok (.ireturn, 1) := by decide +kernel
theorem dX7_lampsThere_0 : decode cX7_lampsThere 0 = .ok (.iconst 0, 1) := by decide +kernel
theorem dX7_lampsThere_1 : decode cX7_lampsThere 1 = .ok (.istore_n 1, 1) := by decide +kernel
theorem dX7_lampsThere_2 : decode cX7_lampsThere 2 = .ok (.iconst 0, 1) := by decide +kernel
theorem dX7_lampsThere_3 : decode cX7_lampsThere 3 = .ok (.istore_n 2, 1) := by decide +kernel
theorem dX7_lampsThere_4 : decode cX7_lampsThere 4 = .ok (.iload_n 2, 1) := by decide +kernel
theorem dX7_lampsThere_5 : decode cX7_lampsThere 5 = .ok (.bipush 6, 2) := by decide +kernel
theorem dX7_lampsThere_7 : decode cX7_lampsThere 7 = .ok (.if_icmp .ge 23, 3) := by decide +kernel
theorem dX7_lampsThere_10 : decode cX7_lampsThere 10 = .ok (.iload_n 1, 1) := by decide +kernel
theorem dX7_lampsThere_11 : decode cX7_lampsThere 11 = .ok (.aload_n 0, 1) := by decide +kernel
theorem dX7_lampsThere_12 : decode cX7_lampsThere 12 = .ok (.iload_n 2, 1) := by decide +kernel
theorem dX7_lampsThere_13 : decode cX7_lampsThere 13 = .ok (.invokevirtual 26, 3) := by decide +kernel
theorem dX7_lampsThere_16 : decode cX7_lampsThere 16 = .ok (.invokevirtual 68, 3) := by decide +kernel
theorem dX7_lampsThere_19 : decode cX7_lampsThere 19 = .ok (.invokestatic 71, 3) := by decide +kernel
theorem dX7_lampsThere_22 : decode cX7_lampsThere 22 = .ok (.iadd, 1) := by decide +kernel
theorem dX7_lampsThere_23 : decode cX7_lampsThere 23 = .ok (.istore_n 1, 1) := by decide +kernel
theorem dX7_lampsThere_24 : decode cX7_lampsThere 24 = .ok (.iinc 2 1, 3) := by decide +kernel
theorem dX7_lampsThere_27 : decode cX7_lampsThere 27 = .ok (.goto (-23), 3) := by decide +kernel
theorem dX7_lampsThere_30 : decode cX7_lampsThere 30 = .ok (.iload_n 1, 1) := by decide +kernel
theorem dX7_lampsThere_31 : decode cX7_lampsThere 31 = .ok (.ireturn, 1) := by decide +kernel
theorem dX7_lampsBurntOut_0 : decode cX7_lampsBurntOut 0 = .ok (.iconst 0, 1) := by decide +kernel
theorem dX7_lampsBurntOut_1 : decode cX7_lampsBurntOut 1 = .ok (.istore_n 1, 1) := by decide +kernel
theorem dX7_lampsBurntOut_2 : decode cX7_lampsBurntOut 2 = .ok (.iconst 0, 1) := by decide +kernel
theorem dX7_lampsBurntOut_3 : decode cX7_lampsBurntOut 3 = .ok (.istore_n 2, 1) := by decide +kernel
theorem dX7_lampsBurntOut_4 : decode cX7_lampsBurntOut 4 = .ok (.iload_n 2, 1) := by decide +kernel
theorem dX7_lampsBurntOut_5 : decode cX7_lampsBurntOut 5 = .ok (.bipush 6, 2) := by decide +kernel
theorem dX7_lampsBurntOut_7 : decode cX7_lampsBurntOut 7 = .ok (.if_icmp .ge 40, 3) := by decide +kernel
theorem dX7_lampsBurntOut_10 : decode cX7_lampsBurntOut 10 = .ok (.aload_n 0, 1) := by decide +kernel
theorem dX7_lampsBurntOut_11 : decode cX7_lampsBurntOut 11 = .ok (.iload_n 2, 1) := by decide +kernel
theorem dX7_lampsBurntOut_12 : decode cX7_lampsBurntOut 12 = .ok (.invokevirtual 26, 3) := by decide +kernel
theorem dX7_lampsBurntOut_15 : decode cX7_lampsBurntOut 15 = .ok (.astore_n 3, 1) := by decide +kernel
theorem dX7_lampsBurntOut_16 : decode cX7_lampsBurntOut 16 = .ok (.iload_n 1, 1) := by decide +kernel
theorem dX7_lampsBurntOut_17 : decode cX7_lampsBurntOut 17 = .ok (.aload_n 3, 1) := by decide +kernel
theorem dX7_lampsBurntOut_18 : decode cX7_lampsBurntOut 18 = .ok (.invokevirtual 68, 3) := by decide +kernel
theorem dX7_lampsBurntOut_21 : decode cX7_lampsBurntOut 21 = .ok (.ifCond .eq 14, 3) := by decide +kernel
theorem dX7_lampsBurntOut_24 : decode cX7_lampsBurntOut 24 = .ok (.aload_n 3, 1) := by decide +kernel
theorem dX7_lampsBurntOut_25 : decode cX7_lampsBurntOut 25 = .ok (.invokevirtual 75, 3) := by decide +kernel
theorem dX7_lampsBurntOut_28 : decode cX7_lampsBurntOut 28 = .ok (.ifCond .eq 7, 3) := by decide +kernel
theorem dX7_lampsBurntOut_31 : decode cX7_lampsBurntOut 31 = .ok (.iconst 1, 1) := by decide +kernel
theorem dX7_lampsBurntOut_32 : decode cX7_lampsBurntOut 32 = .ok (.goto 4, 3) := by decide +kernel
theorem dX7_lampsBurntOut_35 : decode cX7_lampsBurntOut 35 = .ok (.iconst 0, 1) := by decide +kernel
theorem dX7_lampsBurntOut_36 : decode cX7_lampsBurntOut 36 = .ok (.invokestatic 71, 3) := by decide +kernel
theorem dX7_lampsBurntOut_39 : decode cX7_lampsBurntOut 39 = .ok (.iadd, 1) := by decide +kernel
theorem dX7_lampsBurntOut_40 : decode cX7_lampsBurntOut 40 = .ok (.istore_n 1, 1) := by decide +kernel
theorem dX7_lampsBurntOut_41 : decode cX7_lampsBurntOut 41 = .ok (.iinc 2 1, 3) := by decide +kernel
theorem dX7_lampsBurntOut_44 : decode cX7_lampsBurntOut 44 = .ok (.goto (-40), 3) := by decide +kernel
theorem dX7_lampsBurntOut_47 : decode cX7_lampsBurntOut 47 = .ok (.iload_n 1, 1) := by decide +kernel
theorem dX7_lampsBurntOut_48 : decode cX7_lampsBurntOut 48 = .ok (.ireturn, 1) := by decide +kernel
theorem dX7_lampsTired_0 : decode cX7_lampsTired 0 = .ok (.iconst 0, 1) := by decide +kernel
theorem dX7_lampsTired_1 : decode cX7_lampsTired 1 = .ok (.istore_n 1, 1) := by decide +kernel
theorem dX7_lampsTired_2 : decode cX7_lampsTired 2 = .ok (.iconst 0, 1) := by decide +kernel
theorem dX7_lampsTired_3 : decode cX7_lampsTired 3 = .ok (.istore_n 2, 1) := by decide +kernel
theorem dX7_lampsTired_4 : decode cX7_lampsTired 4 = .ok (.iload_n 2, 1) := by decide +kernel
theorem dX7_lampsTired_5 : decode cX7_lampsTired 5 = .ok (.bipush 6, 2) := by decide +kernel
theorem dX7_lampsTired_7 : decode cX7_lampsTired 7 = .ok (.if_icmp .ge 40, 3) := by decide +kernel
theorem dX7_lampsTired_10 : decode cX7_lampsTired 10 = .ok (.aload_n 0, 1) := by decide +kernel
theorem dX7_lampsTired_11 : decode cX7_lampsTired 11 = .ok (.iload_n 2, 1) := by decide +kernel
theorem dX7_lampsTired_12 : decode cX7_lampsTired 12 = .ok (.invokevirtual 26, 3) := by decide +kernel
theorem dX7_lampsTired_15 : decode cX7_lampsTired 15 = .ok (.astore_n 3, 1) := by decide +kernel
theorem dX7_lampsTired_16 : decode cX7_lampsTired 16 = .ok (.iload_n 1, 1) := by decide +kernel
theorem dX7_lampsTired_17 : decode cX7_lampsTired 17 = .ok (.aload_n 3, 1) := by decide +kernel
theorem dX7_lampsTired_18 : decode cX7_lampsTired 18 = .ok (.invokevirtual 57, 3) := by decide +kernel
theorem dX7_lampsTired_21 : decode cX7_lampsTired 21 = .ok (.ifCond .eq 14, 3) := by decide +kernel
theorem dX7_lampsTired_24 : decode cX7_lampsTired 24 = .ok (.aload_n 3, 1) := by decide +kernel
theorem dX7_lampsTired_25 : decode cX7_lampsTired 25 = .ok (.getfield 78, 3) := by decide +kernel
theorem dX7_lampsTired_28 : decode cX7_lampsTired 28 = .ok (.ifCond .eq 7, 3) := by decide +kernel
theorem dX7_lampsTired_31 : decode cX7_lampsTired 31 = .ok (.iconst 1, 1) := by decide +kernel
theorem dX7_lampsTired_32 : decode cX7_lampsTired 32 = .ok (.goto 4, 3) := by decide +kernel
theorem dX7_lampsTired_35 : decode cX7_lampsTired 35 = .ok (.iconst 0, 1) := by decide +kernel
theorem dX7_lampsTired_36 : decode cX7_lampsTired 36 = .ok (.invokestatic 71, 3) := by decide +kernel
theorem dX7_lampsTired_39 : decode cX7_lampsTired 39 = .ok (.iadd, 1) := by decide +kernel
theorem dX7_lampsTired_40 : decode cX7_lampsTired 40 = .ok (.istore_n 1, 1) := by decide +kernel
theorem dX7_lampsTired_41 : decode cX7_lampsTired 41 = .ok (.iinc 2 1, 3) := by decide +kernel
theorem dX7_lampsTired_44 : decode cX7_lampsTired 44 = .ok (.goto (-40), 3) := by decide +kernel
theorem dX7_lampsTired_47 : decode cX7_lampsTired 47 = .ok (.iload_n 1, 1) := by decide +kernel
theorem dX7_lampsTired_48 : decode cX7_lampsTired 48 = .ok (.ireturn, 1) := by decide +kernel
theorem dX8_init_0 : decode cX8_init 0 = .ok (.aload_n 0, 1) := by decide +kernel
theorem dX8_init_1 : decode cX8_init 1 = .ok (.invokespecial 1, 3) := by decide +kernel
theorem dX8_init_4 : decode cX8_init 4 = .ok (.aload_n 0, 1) := by decide +kernel
theorem dX8_init_5 : decode cX8_init 5 = .ok (.new 7, 3) := by decide +kernel
theorem dX8_init_8 : decode cX8_init 8 = .ok (.dup, 1) := by decide +kernel
theorem dX8_init_9 : decode cX8_init 9 = .ok (.invokespecial 9, 3) := by decide +kernel
theorem dX8_init_12 : decode cX8_init 12 = .ok (.putfield 10, 3) := by decide +kernel
theorem dX8_init_15 : decode cX8_init 15 = .ok (.aload_n 0, 1) := by decide +kernel
theorem dX8_init_16 : decode cX8_init 16 = .ok (.new 7, 3) := by decide +kernel
theorem dX8_init_19 : decode cX8_init 19 = .ok (.dup, 1) := by decide +kernel
theorem dX8_init_20 : decode cX8_init 20 = .ok (.invokespecial 9, 3) := by decide +kernel
theorem dX8_init_23 : decode cX8_init 23 = .ok (.putfield 16, 3) := by decide +kernel
theorem dX8_init_26 : decode cX8_init 26 = .ok (.aload_n 0, 1) := by decide +kernel
theorem dX8_init_27 : decode cX8_init 27 = .ok (.new 7, 3) := by decide +kernel
theorem dX8_init_30 : decode cX8_init 30 = .ok (.dup, 1) := by decide +kernel
theorem dX8_init_31 : decode cX8_init 31 = .ok (.invokespecial 9, 3) := by decide +kernel
theorem dX8_init_34 : decode cX8_init 34 = .ok (.putfield 19, 3) := by decide +kernel
theorem dX8_init_37 : decode cX8_init 37 = .ok (.aload_n 0, 1) := by decide +kernel
theorem dX8_init_38 : decode cX8_init 38 = .ok (.new 22, 3) := by decide +kernel
theorem dX8_init_41 : decode cX8_init 41 = .ok (.dup, 1) := by decide +kernel
theorem dX8_init_42 : decode cX8_init 42 = .ok (.invokespecial 24, 3) := by decide +kernel
theorem dX8_init_45 : decode cX8_init 45 = .ok (.putfield 25, 3) := by decide +kernel
theorem dX8_init_48 : decode cX8_init 48 = .ok (.aload_n 0, 1) := by decide +kernel
theorem dX8_init_49 : decode cX8_init 49 = .ok (.new 29, 3) := by decide +kernel
theorem dX8_init_52 : decode cX8_init 52 = .ok (.dup, 1) := by decide +kernel
theorem dX8_init_53 : decode cX8_init 53 = .ok (.invokespecial 31, 3) := by decide +kernel
theorem dX8_init_56 : decode cX8_init 56 = .ok (.putfield 32, 3) := by decide +kernel
theorem dX8_init_59 : decode cX8_init 59 = .ok (.aload_n 0, 1) := by decide +kernel
theorem dX8_init_60 : decode cX8_init 60 = .ok (.new 36, 3) := by decide +kernel
theorem dX8_init_63 : decode cX8_init 63 = .ok (.dup, 1) := by decide +kernel
theorem dX8_init_64 : decode cX8_init 64 = .ok (.invokespecial 38, 3) := by decide +kernel
theorem dX8_init_67 : decode cX8_init 67 = .ok (.putfield 39, 3) := by decide +kernel
theorem dX8_init_70 : decode cX8_init 70 = .ok (.aload_n 0, 1) := by decide +kernel
theorem dX8_init_71 : decode cX8_init 71 = .ok (.new 43, 3) := by decide +kernel
theorem dX8_init_74 : decode cX8_init 74 = .ok (.dup, 1) := by decide +kernel
theorem dX8_init_75 : decode cX8_init 75 = .ok (.invokespecial 45, 3) := by decide +kernel
theorem dX8_init_78 : decode cX8_init 78 = .ok (.putfield 46, 3) := by decide +kernel
theorem dX8_init_81 : decode cX8_init 81 = .ok (.aload_n 0, 1) := by decide +kernel
theorem dX8_init_82 : decode cX8_init 82 = .ok (.iconst 0, 1) := by decide +kernel
theorem dX8_init_83 : decode cX8_init 83 = .ok (.putfield 50, 3) := by decide +kernel
theorem dX8_init_86 : decode cX8_init 86 = .ok (.return_, 1) := by decide +kernel
theorem dX8_set_0 : decode cX8_set 0 = .ok (.iload_n 1, 1) := by decide +kernel
theorem dX8_set_1 : decode cX8_set 1 = .ok (.invokestatic 54, 3) := by decide +kernel
theorem dX8_set_4 : decode cX8_set 4 = .ok (.ifCond .ne 5, 3) := by decide +kernel
theorem dX8_set_7 : decode cX8_set 7 = .ok (.iconst (-1), 1) := by decide +kernel
theorem dX8_set_8 : decode cX8_set 8 = .ok (.ireturn, 1) := by decide +kernel
theorem dX8_set_9 : decode cX8_set 9 = .ok (.iload_n 2, 1) := by decide +kernel
theorem dX8_set_10 : decode cX8_set 10 = .ok (.getstatic 58, 3) := by decide +kernel
theorem dX8_set_13 : decode cX8_set 13 = .ok (.iload_n 1, 1) := by decide +kernel
theorem dX8_set_14 : decode cX8_set 14 = .ok (.invokestatic 62, 3) := by decide +kernel
theorem dX8_set_17 : decode cX8_set 17 = .ok (.getstatic 68, 3) := by decide +kernel
theorem dX8_set_20 : decode cX8_set 20 = .ok (.iload_n 1, 1) := by decide +kernel
theorem dX8_set_21 : decode cX8_set 21 = .ok (.invokestatic 62, 3) := by decide +kernel
theorem dX8_set_24 : decode cX8_set 24 = .ok (.invokestatic 71, 3) := by decide +kernel
theorem dX8_set_27 : decode cX8_set 27 = .ok (.ifCond .ne 6, 3) := by decide +kernel
theorem dX8_set_30 : decode cX8_set 30 = .ok (.bipush (-2), 2) := by decide +kernel
theorem dX8_set_32 : decode cX8_set 32 = .ok (.ireturn, 1) := by decide +kernel
theorem dX8_set_33 : decode cX8_set 33 = .ok (.aload_n 0, 1) := by decide +kernel
theorem dX8_set_34 : decode cX8_set 34 = .ok (.getfield 10, 3) := by decide +kernel
theorem dX8_set_37 : decode cX8_set 37 = .ok (.getfield 75, 3) := by decide +kernel
theorem dX8_set_40 : decode cX8_set 40 = .ok (.iload_n 1, 1) := by decide +kernel
theorem dX8_set_41 : decode cX8_set 41 = .ok (.invokestatic 62, 3) := by decide +kernel
theorem dX8_set_44 : decode cX8_set 44 = .ok (.istore_n 3, 1) := by decide +kernel
theorem dX8_set_45 : decode cX8_set 45 = .ok (.iload_n 3, 1) := by decide +kernel
theorem dX8_set_46 : decode cX8_set 46 = .ok (.iload_n 2, 1) := by decide +kernel
theorem dX8_set_47 : decode cX8_set 47 = .ok (.if_icmp .ne 6, 3) := by decide +kernel
theorem dX8_set_50 : decode cX8_set 50 = .ok (.bipush (-5), 2) := by decide +kernel
theorem dX8_set_52 : decode cX8_set 52 = .ok (.ireturn, 1) := by decide +kernel
theorem dX8_set_53 : decode cX8_set 53 = .ok (.aload_n 0, 1) := by decide +kernel
theorem dX8_set_54 : decode cX8_set 54 = .ok (.getfield 32, 3) := by decide +kernel
theorem dX8_set_57 : decode cX8_set 57 = .ok (.aload_n 0, 1) := by decide +kernel
theorem dX8_set_58 : decode cX8_set 58 = .ok (.getfield 10, 3) := by decide +kernel
theorem dX8_set_61 : decode cX8_set 61 = .ok (.invokevirtual 78, 3) := by decide +kernel
theorem dX8_set_64 : decode cX8_set 64 = .ok (.aload_n 0, 1) := by decide +kernel
theorem dX8_set_65 : decode cX8_set 65 = .ok (.getfield 10, 3) := by decide +kernel
theorem dX8_set_68 : decode cX8_set 68 = .ok (.getfield 75, 3) := by decide +kernel
theorem dX8_set_71 : decode cX8_set 71 = .ok (.iload_n 1, 1) := by decide +kernel
theorem dX8_set_72 : decode cX8_set 72 = .ok (.iload_n 2, 1) := by decide +kernel
theorem dX8_set_73 : decode cX8_set 73 = .ok (.invokestatic 82, 3) := by decide +kernel
theorem dX8_set_76 : decode cX8_set 76 = .ok (.iload_n 3, 1) := by decide +kernel
theorem dX8_set_77 : decode cX8_set 77 = .ok (.ireturn, 1) := by decide +kernel
theorem dX8_setNight_0 : decode cX8_setNight 0 = .ok (.iload_n 1, 1) := by decide +kernel
theorem dX8_setNight_1 : decode cX8_setNight 1 = .ok (.invokestatic 86, 3) := by decide +kernel
theorem dX8_setNight_4 : decode cX8_setNight 4 = .ok (.ifCond .eq 15, 3) := by decide +kernel
theorem dX8_setNight_7 : decode cX8_setNight 7 = .ok (.iload_n 2, 1) := by decide +kernel
theorem dX8_setNight_8 : decode cX8_setNight 8 = .ok (.invokestatic 86, 3) := by decide +kernel
theorem dX8_setNight_11 : decode cX8_setNight 11 = .ok (.ifCond .eq 8, 3) := by decide +kernel
theorem dX8_setNight_14 : decode cX8_setNight 14 = .ok (.iload_n 1, 1) := by decide +kernel
theorem dX8_setNight_15 : decode cX8_setNight 15 = .ok (.iload_n 2, 1) := by decide +kernel
theorem dX8_setNight_16 : decode cX8_setNight 16 = .ok (.if_icmp .ne 6, 3) := by decide +kernel
theorem dX8_setNight_19 : decode cX8_setNight 19 = .ok (.bipush (-2), 2) := by decide +kernel
theorem dX8_setNight_21 : decode cX8_setNight 21 = .ok (.ireturn, 1) := by decide +kernel
theorem dX8_setNight_22 : decode cX8_setNight 22 = .ok (.aload_n 0, 1) := by decide +kernel
theorem dX8_setNight_23 : decode cX8_setNight 23 = .ok (.getfield 10, 3) := by decide +kernel
theorem dX8_setNight_26 : decode cX8_setNight 26 = .ok (.getfield 89, 3) := by decide +kernel
theorem dX8_setNight_29 : decode cX8_setNight 29 = .ok (.iload_n 1, 1) := by decide +kernel
theorem dX8_setNight_30 : decode cX8_setNight 30 = .ok (.if_icmp .ne 17, 3) := by decide +kernel
theorem dX8_setNight_33 : decode cX8_setNight 33 = .ok (.aload_n 0, 1) := by decide +kernel
theorem dX8_setNight_34 : decode cX8_setNight 34 = .ok (.getfield 10, 3) := by decide +kernel
theorem dX8_setNight_37 : decode cX8_setNight 37 = .ok (.getfield 93, 3) := by decide +kernel
theorem dX8_setNight_40 : decode cX8_setNight 40 = .ok (.iload_n 2, 1) := by decide +kernel
theorem dX8_setNight_41 : decode cX8_setNight 41 = .ok (.if_icmp .ne 6, 3) := by decide +kernel
theorem dX8_setNight_44 : decode cX8_setNight 44 = .ok (.bipush (-5), 2) := by decide +kernel
theorem dX8_setNight_46 : decode cX8_setNight 46 = .ok (.ireturn, 1) := by decide +kernel
theorem dX8_setNight_47 : decode cX8_setNight 47 = .ok (.aload_n 0, 1) := by decide +kernel
theorem dX8_setNight_48 : decode cX8_setNight 48 = .ok (.getfield 32, 3) := by decide +kernel
theorem dX8_setNight_51 : decode cX8_setNight 51 = .ok (.aload_n 0, 1) := by decide +kernel
theorem dX8_setNight_52 : decode cX8_setNight 52 = .ok (.getfield 10, 3) := by decide +kernel
theorem dX8_setNight_55 : decode cX8_setNight 55 = .ok (.invokevirtual 78, 3) := by decide +kernel
theorem dX8_setNight_58 : decode cX8_setNight 58 = .ok (.aload_n 0, 1) := by decide +kernel
theorem dX8_setNight_59 : decode cX8_setNight 59 = .ok (.getfield 10, 3) := by decide +kernel
theorem dX8_setNight_62 : decode cX8_setNight 62 = .ok (.iload_n 1, 1) := by decide +kernel
theorem dX8_setNight_63 : decode cX8_setNight 63 = .ok (.putfield 89, 3) := by decide +kernel
theorem dX8_setNight_66 : decode cX8_setNight 66 = .ok (.aload_n 0, 1) := by decide +kernel
theorem dX8_setNight_67 : decode cX8_setNight 67 = .ok (.getfield 10, 3) := by decide +kernel
theorem dX8_setNight_70 : decode cX8_setNight 70 = .ok (.iload_n 2, 1) := by decide +kernel
theorem dX8_setNight_71 : decode cX8_setNight 71 = .ok (.putfield 93, 3) := by decide +kernel
theorem dX8_setNight_74 : decode cX8_setNight 74 = .ok (.aload_n 0, 1) := by decide +kernel
theorem dX8_setNight_75 : decode cX8_setNight 75 = .ok (.getfield 10, 3) := by decide +kernel
theorem dX8_setNight_78 : decode cX8_setNight 78 = .ok (.invokevirtual 96, 3) := by decide +kernel
theorem dX8_setNight_81 : decode cX8_setNight 81 = .ok (.ireturn, 1) := by decide +kernel
theorem dX8_putIn_0 : decode cX8_putIn 0 = .ok (.iload_n 1, 1) := by decide +kernel
theorem dX8_putIn_1 : decode cX8_putIn 1 = .ok (.invokestatic 100, 3) := by decide +kernel
theorem dX8_putIn_4 : decode cX8_putIn 4 = .ok (.ifCond .ne 5, 3) := by decide +kernel
theorem dX8_putIn_7 : decode cX8_putIn 7 = .ok (.iconst (-1), 1) := by decide +kernel
theorem dX8_putIn_8 : decode cX8_putIn 8 = .ok (.ireturn, 1) := by decide +kernel
theorem dX8_putIn_9 : decode cX8_putIn 9 = .ok (.iload_n 2, 1) := by decide +kernel
theorem dX8_putIn_10 : decode cX8_putIn 10 = .ok (.invokestatic 103, 3) := by decide +kernel
theorem dX8_putIn_13 : decode cX8_putIn 13 = .ok (.ifCond .eq 15, 3) := by decide +kernel
theorem dX8_putIn_16 : decode cX8_putIn 16 = .ok (.iload_n 3, 1) := by decide +kernel
theorem dX8_putIn_17 : decode cX8_putIn 17 = .ok (.bipush 50, 2) := by decide +kernel
theorem dX8_putIn_19 : decode cX8_putIn 19 = .ok (.sipush 150, 3) := by decide +kernel
theorem dX8_putIn_22 : decode cX8_putIn 22 = .ok (.invokestatic 71, 3) := by decide +kernel
theorem dX8_putIn_25 : decode cX8_putIn 25 = .ok (.ifCond .ne 6, 3) := by decide +kernel
theorem dX8_putIn_28 : decode cX8_putIn 28 = .ok (.bipush (-2), 2) := by decide +kernel
theorem dX8_putIn_30 : decode cX8_putIn 30 = .ok (.ireturn, 1) := by decide +kernel
theorem dX8_putIn_31 : decode cX8_putIn 31 = .ok (.aload_n 0, 1) := by decide +kernel
theorem dX8_putIn_32 : decode cX8_putIn 32 = .ok (.getfield 10, 3) := by decide +kernel
theorem dX8_putIn_35 : decode cX8_putIn 35 = .ok (.getfield 106, 3) := by decide +kernel
theorem dX8_putIn_38 : decode cX8_putIn 38 = .ok (.iload_n 1, 1) := by decide +kernel
theorem dX8_putIn_39 : decode cX8_putIn 39 = .ok (.invokevirtual 110, 3) := by decide +kernel
theorem dX8_putIn_42 : decode cX8_putIn 42 = .ok (.astore 4, 2) := by decide +kernel
theorem dX8_putIn_44 : decode cX8_putIn 44 = .ok (.aload 4, 2) := by decide +kernel
theorem dX8_putIn_46 : decode cX8_putIn 46 = .ok (.invokevirtual 116, 3) := by decide +kernel
theorem dX8_putIn_49 : decode cX8_putIn 49 = .ok (.ifCond .eq 6, 3) := by decide +kernel
theorem dX8_putIn_52 : decode cX8_putIn 52 = .ok (.bipush (-4), 2) := by decide +kernel
theorem dX8_putIn_54 : decode cX8_putIn 54 = .ok (.ireturn, 1) := by decide +kernel
theorem dX8_putIn_55 : decode cX8_putIn 55 = .ok (.aload_n 0, 1) := by decide +kernel
theorem dX8_putIn_56 : decode cX8_putIn 56 = .ok (.getfield 32, 3) := by decide +kernel
theorem dX8_putIn_59 : decode cX8_putIn 59 = .ok (.aload_n 0, 1) := by decide +kernel
theorem dX8_putIn_60 : decode cX8_putIn 60 = .ok (.getfield 10, 3) := by decide +kernel
theorem dX8_putIn_63 : decode cX8_putIn 63 = .ok (.invokevirtual 78, 3) := by decide +kernel
theorem dX8_putIn_66 : decode cX8_putIn 66 = .ok (.aload 4, 2) := by decide +kernel
theorem dX8_putIn_68 : decode cX8_putIn 68 = .ok (.iload_n 2, 1) := by decide +kernel
theorem dX8_putIn_69 : decode cX8_putIn 69 = .ok (.iload_n 3, 1) := by decide +kernel
theorem dX8_putIn_70 : decode cX8_putIn 70 = .ok (.invokevirtual 120, 3) := by decide +kernel
theorem dX8_putIn_73 : decode cX8_putIn 73 = .ok (.aload 4, 2) := by decide +kernel
theorem dX8_putIn_75 : decode cX8_putIn 75 = .ok (.getfield 124, 3) := by decide +kernel
theorem dX8_putIn_78 : decode cX8_putIn 78 = .ok (.ireturn, 1) := by decide +kernel
theorem dX8_takeOut_0 : decode cX8_takeOut 0 = .ok (.iload_n 1, 1) := by decide +kernel
theorem dX8_takeOut_1 : decode cX8_takeOut 1 = .ok (.invokestatic 100, 3) := by decide +kernel
theorem dX8_takeOut_4 : decode cX8_takeOut 4 = .ok (.ifCond .ne 5, 3) := by decide +kernel
theorem dX8_takeOut_7 : decode cX8_takeOut 7 = .ok (.iconst (-1), 1) := by decide +kernel
theorem dX8_takeOut_8 : decode cX8_takeOut 8 = .ok (.ireturn, 1) := by decide +kernel
theorem dX8_takeOut_9 : decode cX8_takeOut 9 = .ok (.aload_n 0, 1) := by decide +kernel
theorem dX8_takeOut_10 : decode cX8_takeOut 10 = .ok (.getfield 10, 3) := by decide +kernel
theorem dX8_takeOut_13 : decode cX8_takeOut 13 = .ok (.getfield 106, 3) := by decide +kernel
theorem dX8_takeOut_16 : decode cX8_takeOut 16 = .ok (.iload_n 1, 1) := by decide +kernel
theorem dX8_takeOut_17 : decode cX8_takeOut 17 = .ok (.invokevirtual 110, 3) := by decide +kernel
theorem dX8_takeOut_20 : decode cX8_takeOut 20 = .ok (.astore_n 2, 1) := by decide +kernel
theorem dX8_takeOut_21 : decode cX8_takeOut 21 = .ok (.aload_n 2, 1) := by decide +kernel
theorem dX8_takeOut_22 : decode cX8_takeOut 22 = .ok (.invokevirtual 116, 3) := by decide +kernel
theorem dX8_takeOut_25 : decode cX8_takeOut 25 = .ok (.ifCond .eq 17, 3) := by decide +kernel
theorem dX8_takeOut_28 : decode cX8_takeOut 28 = .ok (.aload_n 0, 1) := by decide +kernel
theorem dX8_takeOut_29 : decode cX8_takeOut 29 = .ok (.getfield 10, 3) := by decide +kernel
theorem dX8_takeOut_32 : decode cX8_takeOut 32 = .ok (.getfield 106, 3) := by decide +kernel
theorem dX8_takeOut_35 : decode cX8_takeOut 35 = .ok (.iload_n 1, 1) := by decide +kernel
theorem dX8_takeOut_36 : decode cX8_takeOut 36 = .ok (.invokevirtual 127, 3) := by decide +kernel
theorem dX8_takeOut_39 : decode cX8_takeOut 39 = .ok (.ifCond .eq 6, 3) := by decide +kernel
theorem dX8_takeOut_42 : decode cX8_takeOut 42 = .ok (.bipush (-4), 2) := by decide +kernel
theorem dX8_takeOut_44 : decode cX8_takeOut 44 = .ok (.ireturn, 1) := by decide +kernel
theorem dX8_takeOut_45 : decode cX8_takeOut 45 = .ok (.aload_n 0, 1) := by decide +kernel
theorem dX8_takeOut_46 : decode cX8_takeOut 46 = .ok (.getfield 32, 3) := by decide +kernel
theorem dX8_takeOut_49 : decode cX8_takeOut 49 = .ok (.aload_n 0, 1) := by decide +kernel
theorem dX8_takeOut_50 : decode cX8_takeOut 50 = .ok (.getfield 10, 3) := by decide +kernel
theorem dX8_takeOut_53 : decode cX8_takeOut 53 = .ok (.invokevirtual 78, 3) := by decide +kernel
theorem dX8_takeOut_56 : decode cX8_takeOut 56 = .ok (.aload_n 2, 1) := by decide +kernel
theorem dX8_takeOut_57 : decode cX8_takeOut 57 = .ok (.getfield 130, 3) := by decide +kernel
theorem dX8_takeOut_60 : decode cX8_takeOut 60 = .ok (.istore_n 3, 1) := by decide +kernel
theorem dX8_takeOut_61 : decode cX8_takeOut 61 = .ok (.aload_n 2, 1) := by decide +kernel
theorem dX8_takeOut_62 : decode cX8_takeOut 62 = .ok (.invokevirtual 133, 3) := by decide +kernel
theorem dX8_takeOut_65 : decode cX8_takeOut 65 = .ok (.iload_n 3, 1) := by decide +kernel
theorem dX8_takeOut_66 : decode cX8_takeOut 66 = .ok (.ireturn, 1) := by decide +kernel
theorem dX8_turnTo_0 : decode cX8_turnTo 0 = .ok (.iload_n 1, 1) := by decide +kernel
theorem dX8_turnTo_1 : decode cX8_turnTo 1 = .ok (.invokestatic 100, 3) := by decide +kernel
theorem dX8_turnTo_4 : decode cX8_turnTo 4 = .ok (.ifCond .ne 5, 3) := by decide +kernel
theorem dX8_turnTo_7 : decode cX8_turnTo 7 = .ok (.iconst (-1), 1) := by decide +kernel
theorem dX8_turnTo_8 : decode cX8_turnTo 8 = .ok (.ireturn, 1) := by decide +kernel
theorem dX8_turnTo_9 : decode cX8_turnTo 9 = .ok (.aload_n 0, 1) := by decide +kernel
theorem dX8_turnTo_10 : decode cX8_turnTo 10 = .ok (.getfield 10, 3) := by decide +kernel
theorem dX8_turnTo_13 : decode cX8_turnTo 13 = .ok (.getfield 106, 3) := by decide +kernel
theorem dX8_turnTo_16 : decode cX8_turnTo 16 = .ok (.invokevirtual 136, 3) := by decide +kernel
theorem dX8_turnTo_19 : decode cX8_turnTo 19 = .ok (.ifCond .eq 6, 3) := by decide +kernel
theorem dX8_turnTo_22 : decode cX8_turnTo 22 = .ok (.bipush (-4), 2) := by decide +kernel
theorem dX8_turnTo_24 : decode cX8_turnTo 24 = .ok (.ireturn, 1) := by decide +kernel
theorem dX8_turnTo_25 : decode cX8_turnTo 25 = .ok (.aload_n 0, 1) := by decide +kernel
theorem dX8_turnTo_26 : decode cX8_turnTo 26 = .ok (.getfield 10, 3) := by decide +kernel
theorem dX8_turnTo_29 : decode cX8_turnTo 29 = .ok (.getfield 106, 3) := by decide +kernel
theorem dX8_turnTo_32 : decode cX8_turnTo 32 = .ok (.getfield 139, 3) := by decide +kernel
theorem dX8_turnTo_35 : decode cX8_turnTo 35 = .ok (.iload_n 1, 1) := by decide +kernel
theorem dX8_turnTo_36 : decode cX8_turnTo 36 = .ok (.if_icmp .ne 6, 3) := by decide +kernel
theorem dX8_turnTo_39 : decode cX8_turnTo 39 = .ok (.bipush (-5), 2) := by decide +kernel
theorem dX8_turnTo_41 : decode cX8_turnTo 41 = .ok (.ireturn, 1) := by decide +kernel
theorem dX8_turnTo_42 : decode cX8_turnTo 42 = .ok (.aload_n 0, 1) := by decide +kernel
theorem dX8_turnTo_43 : decode cX8_turnTo 43 = .ok (.getfield 32, 3) := by decide +kernel
theorem dX8_turnTo_46 : decode cX8_turnTo 46 = .ok (.aload_n 0, 1) := by decide +kernel
theorem dX8_turnTo_47 : decode cX8_turnTo 47 = .ok (.getfield 10, 3) := by decide +kernel
theorem dX8_turnTo_50 : decode cX8_turnTo 50 = .ok (.invokevirtual 78, 3) := by decide +kernel
theorem dX8_turnTo_53 : decode cX8_turnTo 53 = .ok (.aload_n 0, 1) := by decide +kernel
theorem dX8_turnTo_54 : decode cX8_turnTo 54 = .ok (.getfield 10, 3) := by decide +kernel
theorem dX8_turnTo_57 : decode cX8_turnTo 57 = .ok (.getfield 106, 3) := by decide +kernel
theorem dX8_turnTo_60 : decode cX8_turnTo 60 = .ok (.iload_n 1, 1) := by decide +kernel
theorem dX8_turnTo_61 : decode cX8_turnTo 61 = .ok (.aload_n 0, 1) := by decide +kernel
theorem dX8_turnTo_62 : decode cX8_turnTo 62 = .ok (.getfield 10, 3) := by decide +kernel
theorem dX8_turnTo_65 : decode cX8_turnTo 65 = .ok (.getfield 75, 3) := by decide +kernel
theorem dX8_turnTo_68 : decode cX8_turnTo 68 = .ok (.iconst 2, 1) := by decide +kernel
theorem dX8_turnTo_69 : decode cX8_turnTo 69 = .ok (.invokestatic 62, 3) := by decide +kernel
theorem dX8_turnTo_72 : decode cX8_turnTo 72 = .ok (.invokevirtual 142, 3) := by decide +kernel
theorem dX8_turnTo_75 : decode cX8_turnTo 75 = .ok (.aload_n 0, 1) := by decide +kernel
theorem dX8_turnTo_76 : decode cX8_turnTo 76 = .ok (.getfield 10, 3) := by decide +kernel
theorem dX8_turnTo_79 : decode cX8_turnTo 79 = .ok (.getfield 106, 3) := by decide +kernel
theorem dX8_turnTo_82 : decode cX8_turnTo 82 = .ok (.getfield 145, 3) := by decide +kernel
theorem dX8_turnTo_85 : decode cX8_turnTo 85 = .ok (.ireturn, 1) := by decide +kernel
theorem dX8_stock_0 : decode cX8_stock 0 = .ok (.iload_n 1, 1) := by decide +kernel
theorem dX8_stock_1 : decode cX8_stock 1 = .ok (.invokestatic 103, 3) := by decide +kernel
theorem dX8_stock_4 : decode cX8_stock 4 = .ok (.ifCond .eq 10, 3) := by decide +kernel
theorem dX8_stock_7 : decode cX8_stock 7 = .ok (.iload_n 2, 1) := by decide +kernel
theorem dX8_stock_8 : decode cX8_stock 8 = .ok (.invokestatic 148, 3) := by decide +kernel
theorem dX8_stock_11 : decode cX8_stock 11 = .ok (.ifCond .ne 6, 3) := by decide +kernel
theorem dX8_stock_14 : decode cX8_stock 14 = .ok (.bipush (-2), 2) := by decide +kernel
theorem dX8_stock_16 : decode cX8_stock 16 = .ok (.ireturn, 1) := by decide +kernel
theorem dX8_stock_17 : decode cX8_stock 17 = .ok (.aload_n 0, 1) := by decide +kernel
theorem dX8_stock_18 : decode cX8_stock 18 = .ok (.getfield 10, 3) := by decide +kernel
theorem dX8_stock_21 : decode cX8_stock 21 = .ok (.getfield 151, 3) := by decide +kernel
theorem dX8_stock_24 : decode cX8_stock 24 = .ok (.iload_n 1, 1) := by decide +kernel
theorem dX8_stock_25 : decode cX8_stock 25 = .ok (.invokestatic 62, 3) := by decide +kernel
theorem dX8_stock_28 : decode cX8_stock 28 = .ok (.iload_n 2, 1) := by decide +kernel
theorem dX8_stock_29 : decode cX8_stock 29 = .ok (.iadd, 1) := by decide +kernel
theorem dX8_stock_30 : decode cX8_stock 30 = .ok (.istore_n 3, 1) := by decide +kernel
theorem dX8_stock_31 : decode cX8_stock 31 = .ok (.iload_n 3, 1) := by decide +kernel
theorem dX8_stock_32 : decode cX8_stock 32 = .ok (.bipush 99, 2) := by decide +kernel
theorem dX8_stock_34 : decode cX8_stock 34 = .ok (.if_icmp .le 6, 3) := by decide +kernel
theorem dX8_stock_37 : decode cX8_stock 37 = .ok (.bipush (-3), 2) := by decide +kernel
theorem dX8_stock_39 : decode cX8_stock 39 = .ok (.ireturn, 1) := by decide +kernel
theorem dX8_stock_40 : decode cX8_stock 40 = .ok (.aload_n 0, 1) := by decide +kernel
theorem dX8_stock_41 : decode cX8_stock 41 = .ok (.getfield 32, 3) := by decide +kernel
theorem dX8_stock_44 : decode cX8_stock 44 = .ok (.aload_n 0, 1) := by decide +kernel
theorem dX8_stock_45 : decode cX8_stock 45 = .ok (.getfield 10, 3) := by decide +kernel
theorem dX8_stock_48 : decode cX8_stock 48 = .ok (.invokevirtual 78, 3) := by decide +kernel
theorem dX8_stock_51 : decode cX8_stock 51 = .ok (.aload_n 0, 1) := by decide +kernel
theorem dX8_stock_52 : decode cX8_stock 52 = .ok (.getfield 10, 3) := by decide +kernel
theorem dX8_stock_55 : decode cX8_stock 55 = .ok (.getfield 151, 3) := by decide +kernel
theorem dX8_stock_58 : decode cX8_stock 58 = .ok (.iload_n 1, 1) := by decide +kernel
theorem dX8_stock_59 : decode cX8_stock 59 = .ok (.iload_n 3, 1) := by decide +kernel
theorem dX8_stock_60 : decode cX8_stock 60 = .ok (.invokestatic 82, 3) := by decide +kernel
theorem dX8_stock_63 : decode cX8_stock 63 = .ok (.iload_n 3, 1) := by decide +kernel
theorem dX8_stock_64 : decode cX8_stock 64 = .ok (.ireturn, 1) := by decide +kernel
theorem dX8_boat_0 : decode cX8_boat 0 = .ok (.iload_n 1, 1) := by decide +kernel
theorem dX8_boat_1 : decode cX8_boat 1 = .ok (.iconst 0, 1) := by decide +kernel
theorem dX8_boat_2 : decode cX8_boat 2 = .ok (.sipush 9999, 3) := by decide +kernel
theorem dX8_boat_5 : decode cX8_boat 5 = .ok (.invokestatic 71, 3) := by decide +kernel
theorem dX8_boat_8 : decode cX8_boat 8 = .ok (.ifCond .eq 17, 3) := by decide +kernel
theorem dX8_boat_11 : decode cX8_boat 11 = .ok (.iload_n 2, 1) := by decide +kernel
theorem dX8_boat_12 : decode cX8_boat 12 = .ok (.invokestatic 103, 3) := by decide +kernel
theorem dX8_boat_15 : decode cX8_boat 15 = .ok (.ifCond .eq 10, 3) := by decide +kernel
theorem dX8_boat_18 : decode cX8_boat 18 = .ok (.iload_n 3, 1) := by decide +kernel
theorem dX8_boat_19 : decode cX8_boat 19 = .ok (.invokestatic 148, 3) := by decide +kernel
theorem dX8_boat_22 : decode cX8_boat 22 = .ok (.ifCond .ne 6, 3) := by decide +kernel
theorem dX8_boat_25 : decode cX8_boat 25 = .ok (.bipush (-2), 2) := by decide +kernel
theorem dX8_boat_27 : decode cX8_boat 27 = .ok (.ireturn, 1) := by decide +kernel
theorem dX8_boat_28 : decode cX8_boat 28 = .ok (.aload_n 0, 1) := by decide +kernel
theorem dX8_boat_29 : decode cX8_boat 29 = .ok (.getfield 10, 3) := by decide +kernel
theorem dX8_boat_32 : decode cX8_boat 32 = .ok (.getfield 154, 3) := by decide +kernel
theorem dX8_boat_35 : decode cX8_boat 35 = .ok (.iload_n 1, 1) := by decide +kernel
theorem dX8_boat_36 : decode cX8_boat 36 = .ok (.invokevirtual 157, 3) := by decide +kernel
theorem dX8_boat_39 : decode cX8_boat 39 = .ok (.ifCond .ne 6, 3) := by decide +kernel
theorem dX8_boat_42 : decode cX8_boat 42 = .ok (.bipush (-3), 2) := by decide +kernel
theorem dX8_boat_44 : decode cX8_boat 44 = .ok (.ireturn, 1) := by decide +kernel
theorem dX8_boat_45 : decode cX8_boat 45 = .ok (.aload_n 0, 1) := by decide +kernel
theorem dX8_boat_46 : decode cX8_boat 46 = .ok (.getfield 32, 3) := by decide +kernel
theorem dX8_boat_49 : decode cX8_boat 49 = .ok (.aload_n 0, 1) := by decide +kernel
theorem dX8_boat_50 : decode cX8_boat 50 = .ok (.getfield 10, 3) := by decide +kernel
theorem dX8_boat_53 : decode cX8_boat 53 = .ok (.invokevirtual 78, 3) := by decide +kernel
theorem dX8_boat_56 : decode cX8_boat 56 = .ok (.aload_n 0, 1) := by decide +kernel
theorem dX8_boat_57 : decode cX8_boat 57 = .ok (.getfield 10, 3) := by decide +kernel
theorem dX8_boat_60 : decode cX8_boat 60 = .ok (.getfield 154, 3) := by decide +kernel
theorem dX8_boat_63 : decode cX8_boat 63 = .ok (.iload_n 1, 1) := by decide +kernel
theorem dX8_boat_64 : decode cX8_boat 64 = .ok (.iload_n 2, 1) := by decide +kernel
theorem dX8_boat_65 : decode cX8_boat 65 = .ok (.iload_n 3, 1) := by decide +kernel
theorem dX8_boat_66 : decode cX8_boat 66 = .ok (.invokevirtual 160, 3) := by decide +kernel
theorem dX8_boat_69 : decode cX8_boat 69 = .ok (.aload_n 0, 1) := by decide +kernel
theorem dX8_boat_70 : decode cX8_boat 70 = .ok (.getfield 10, 3) := by decide +kernel
theorem dX8_boat_73 : decode cX8_boat 73 = .ok (.getfield 154, 3) := by decide +kernel
theorem dX8_boat_76 : decode cX8_boat 76 = .ok (.getfield 164, 3) := by decide +kernel
theorem dX8_boat_79 : decode cX8_boat 79 = .ok (.ireturn, 1) := by decide +kernel
theorem dX8_readPlan_0 : decode cX8_readPlan 0 = .ok (.aload_n 0, 1) := by decide +kernel
theorem dX8_readPlan_1 : decode cX8_readPlan 1 = .ok (.getfield 39, 3) := by decide +kernel
theorem dX8_readPlan_4 : decode cX8_readPlan 4 = .ok (.aload_n 0, 1) := by decide +kernel
theorem dX8_readPlan_5 : decode cX8_readPlan 5 = .ok (.getfield 46, 3) := by decide +kernel
theorem dX8_readPlan_8 : decode cX8_readPlan 8 = .ok (.invokevirtual 167, 3) := by decide +kernel
theorem dX8_readPlan_11 : decode cX8_readPlan 11 = .ok (.istore_n 1, 1) := by decide +kernel
theorem dX8_readPlan_12 : decode cX8_readPlan 12 = .ok (.iload_n 1, 1) := by decide +kernel
theorem dX8_readPlan_13 : decode cX8_readPlan 13 = .ok (.iconst (-1), 1) := by decide +kernel
theorem dX8_readPlan_14 : decode cX8_readPlan 14 = .ok (.if_icmp .eq 8, 3) := by decide +kernel
theorem dX8_readPlan_17 : decode cX8_readPlan 17 = .ok (.bipush (-100), 2) := by decide +kernel
theorem dX8_readPlan_19 : decode cX8_readPlan 19 = .ok (.iload_n 1, 1) := by decide +kernel
theorem dX8_readPlan_20 : decode cX8_readPlan 20 = .ok (.isub, 1) := by decide +kernel
theorem dX8_readPlan_21 : decode cX8_readPlan 21 = .ok (.ireturn, 1) := by decide +kernel
theorem dX8_readPlan_22 : decode cX8_readPlan 22 = .ok (.aload_n 0, 1) := by decide +kernel
theorem dX8_readPlan_23 : decode cX8_readPlan 23 = .ok (.getfield 39, 3) := by decide +kernel
theorem dX8_readPlan_26 : decode cX8_readPlan 26 = .ok (.getfield 171, 3) := by decide +kernel
theorem dX8_readPlan_29 : decode cX8_readPlan 29 = .ok (.ifCond .eq 6, 3) := by decide +kernel
theorem dX8_readPlan_32 : decode cX8_readPlan 32 = .ok (.bipush (-3), 2) := by decide +kernel
theorem dX8_readPlan_34 : decode cX8_readPlan 34 = .ok (.ireturn, 1) := by decide +kernel
theorem dX8_readPlan_35 : decode cX8_readPlan 35 = .ok (.aload_n 0, 1) := by decide +kernel
theorem dX8_readPlan_36 : decode cX8_readPlan 36 = .ok (.getfield 32, 3) := by decide +kernel
theorem dX8_readPlan_39 : decode cX8_readPlan 39 = .ok (.aload_n 0, 1) := by decide +kernel
theorem dX8_readPlan_40 : decode cX8_readPlan 40 = .ok (.getfield 10, 3) := by decide +kernel
theorem dX8_readPlan_43 : decode cX8_readPlan 43 = .ok (.invokevirtual 78, 3) := by decide +kernel
theorem dX8_readPlan_46 : decode cX8_readPlan 46 = .ok (.aload_n 0, 1) := by decide +kernel
theorem dX8_readPlan_47 : decode cX8_readPlan 47 = .ok (.getfield 10, 3) := by decide +kernel
theorem dX8_readPlan_50 : decode cX8_readPlan 50 = .ok (.getfield 154, 3) := by decide +kernel
theorem dX8_readPlan_53 : decode cX8_readPlan 53 = .ok (.aload_n 0, 1) := by decide +kernel
theorem dX8_readPlan_54 : decode cX8_readPlan 54 = .ok (.getfield 46, 3) := by decide +kernel
theorem dX8_readPlan_57 : decode cX8_readPlan 57 = .ok (.invokevirtual 174, 3) := by decide +kernel
theorem dX8_readPlan_60 : decode cX8_readPlan 60 = .ok (.aload_n 0, 1) := by decide +kernel
theorem dX8_readPlan_61 : decode cX8_readPlan 61 = .ok (.getfield 10, 3) := by decide +kernel
theorem dX8_readPlan_64 : decode cX8_readPlan 64 = .ok (.getfield 154, 3) := by decide +kernel
theorem dX8_readPlan_67 : decode cX8_readPlan 67 = .ok (.getfield 164, 3) := by decide +kernel
theorem dX8_readPlan_70 : decode cX8_readPlan 70 = .ok (.ireturn, 1) := by decide +kernel
theorem dX8_pass_0 : decode cX8_pass 0 = .ok (.iload_n 1, 1) := by decide +kernel
theorem dX8_pass_1 : decode cX8_pass 1 = .ok (.iconst 1, 1) := by decide +kernel
theorem dX8_pass_2 : decode cX8_pass 2 = .ok (.sipush 200, 3) := by decide +kernel
theorem dX8_pass_5 : decode cX8_pass 5 = .ok (.invokestatic 71, 3) := by decide +kernel
theorem dX8_pass_8 : decode cX8_pass 8 = .ok (.ifCond .ne 6, 3) := by decide +kernel
theorem dX8_pass_11 : decode cX8_pass 11 = .ok (.bipush (-2), 2) := by decide +kernel
theorem dX8_pass_13 : decode cX8_pass 13 = .ok (.ireturn, 1) := by decide +kernel
theorem dX8_pass_14 : decode cX8_pass 14 = .ok (.iload_n 1, 1) := by decide +kernel
theorem dX8_pass_15 : decode cX8_pass 15 = .ok (.ldc 178, 2) := by decide +kernel
theorem dX8_pass_17 : decode cX8_pass 17 = .ok (.aload_n 0, 1) := by decide +kernel
theorem dX8_pass_18 : decode cX8_pass 18 = .ok (.getfield 10, 3) := by decide +kernel
theorem dX8_pass_21 : decode cX8_pass 21 = .ok (.getfield 179, 3) := by decide +kernel
theorem dX8_pass_24 : decode cX8_pass 24 = .ok (.isub, 1) := by decide +kernel
theorem dX8_pass_25 : decode cX8_pass 25 = .ok (.if_icmp .le 6, 3) := by decide +kernel
theorem dX8_pass_28 : decode cX8_pass 28 = .ok (.bipush (-3), 2) := by decide +kernel
theorem dX8_pass_30 : decode cX8_pass 30 = .ok (.ireturn, 1) := by decide +kernel
theorem dX8_pass_31 : decode cX8_pass 31 = .ok (.aload_n 0, 1) := by decide +kernel
theorem dX8_pass_32 : decode cX8_pass 32 = .ok (.getfield 32, 3) := by decide +kernel
theorem dX8_pass_35 : decode cX8_pass 35 = .ok (.aload_n 0, 1) := by decide +kernel
theorem dX8_pass_36 : decode cX8_pass 36 = .ok (.getfield 10, 3) := by decide +kernel
theorem dX8_pass_39 : decode cX8_pass 39 = .ok (.invokevirtual 78, 3) := by decide +kernel
theorem dX8_pass_42 : decode cX8_pass 42 = .ok (.aload_n 0, 1) := by decide +kernel
theorem dX8_pass_43 : decode cX8_pass 43 = .ok (.getfield 10, 3) := by decide +kernel
theorem dX8_pass_46 : decode cX8_pass 46 = .ok (.getfield 182, 3) := by decide +kernel
theorem dX8_pass_49 : decode cX8_pass 49 = .ok (.istore_n 2, 1) := by decide +kernel
theorem dX8_pass_50 : decode cX8_pass 50 = .ok (.iconst 0, 1) := by decide +kernel
theorem dX8_pass_51 : decode cX8_pass 51 = .ok (.istore_n 3, 1) := by decide +kernel
theorem dX8_pass_52 : decode cX8_pass 52 = .ok (.iload_n 3, 1) := by decide +kernel
theorem dX8_pass_53 : decode cX8_pass 53 = .ok (.iload_n 1, 1) := by decide +kernel
theorem dX8_pass_54 : decode cX8_pass 54 = .ok (.if_icmp .ge 18, 3) := by decide +kernel
theorem dX8_pass_57 : decode cX8_pass 57 = .ok (.aload_n 0, 1) := by decide +kernel
theorem dX8_pass_58 : decode cX8_pass 58 = .ok (.getfield 10, 3) := by decide +kernel
theorem dX8_pass_61 : decode cX8_pass 61 = .ok (.iconst 1, 1) := by decide +kernel
theorem dX8_pass_62 : decode cX8_pass 62 = .ok (.invokevirtual 185, 3) := by decide +kernel
theorem dX8_pass_65 : decode cX8_pass 65 = .ok (.pop, 1) := by decide +kernel
theorem dX8_pass_66 : decode cX8_pass 66 = .ok (.iinc 3 1, 3) := by decide +kernel
theorem dX8_pass_69 : decode cX8_pass 69 = .ok (.goto (-17), 3) := by decide +kernel
theorem dX8_pass_72 : decode cX8_pass 72 = .ok (.aload_n 0, 1) := by decide +kernel
theorem dX8_pass_73 : decode cX8_pass 73 = .ok (.getfield 10, 3) := by decide +kernel
theorem dX8_pass_76 : decode cX8_pass 76 = .ok (.getfield 182, 3) := by decide +kernel
theorem dX8_pass_79 : decode cX8_pass 79 = .ok (.iload_n 2, 1) := by decide +kernel
theorem dX8_pass_80 : decode cX8_pass 80 = .ok (.isub, 1) := by decide +kernel
theorem dX8_pass_81 : decode cX8_pass 81 = .ok (.ireturn, 1) := by decide +kernel
theorem dX8_type_0 : decode cX8_type 0 = .ok (.aload_n 0, 1) := by decide +kernel
theorem dX8_type_1 : decode cX8_type 1 = .ok (.getfield 39, 3) := by decide +kernel
theorem dX8_type_4 : decode cX8_type 4 = .ok (.iload_n 1, 1) := by decide +kernel
theorem dX8_type_5 : decode cX8_type 5 = .ok (.invokevirtual 189, 3) := by decide +kernel
theorem dX8_type_8 : decode cX8_type 8 = .ok (.ifCond .ne 6, 3) := by decide +kernel
theorem dX8_type_11 : decode cX8_type 11 = .ok (.bipush (-3), 2) := by decide +kernel
theorem dX8_type_13 : decode cX8_type 13 = .ok (.ireturn, 1) := by decide +kernel
theorem dX8_type_14 : decode cX8_type 14 = .ok (.aload_n 0, 1) := by decide +kernel
theorem dX8_type_15 : decode cX8_type 15 = .ok (.getfield 39, 3) := by decide +kernel
theorem dX8_type_18 : decode cX8_type 18 = .ok (.getfield 193, 3) := by decide +kernel
theorem dX8_type_21 : decode cX8_type 21 = .ok (.ireturn, 1) := by decide +kernel
theorem dX8_clearText_0 : decode cX8_clearText 0 = .ok (.aload_n 0, 1) := by decide +kernel
theorem dX8_clearText_1 : decode cX8_clearText 1 = .ok (.getfield 39, 3) := by decide +kernel
theorem dX8_clearText_4 : decode cX8_clearText 4 = .ok (.getfield 193, 3) := by decide +kernel
theorem dX8_clearText_7 : decode cX8_clearText 7 = .ok (.istore_n 1, 1) := by decide +kernel
theorem dX8_clearText_8 : decode cX8_clearText 8 = .ok (.aload_n 0, 1) := by decide +kernel
theorem dX8_clearText_9 : decode cX8_clearText 9 = .ok (.getfield 39, 3) := by decide +kernel
theorem dX8_clearText_12 : decode cX8_clearText 12 = .ok (.iconst 0, 1) := by decide +kernel
theorem dX8_clearText_13 : decode cX8_clearText 13 = .ok (.putfield 193, 3) := by decide +kernel
theorem dX8_clearText_16 : decode cX8_clearText 16 = .ok (.iload_n 1, 1) := by decide +kernel
theorem dX8_clearText_17 : decode cX8_clearText 17 = .ok (.ireturn, 1) := by decide +kernel
theorem dX8_undo_0 : decode cX8_undo 0 = .ok (.aload_n 0, 1) := by decide +kernel
theorem dX8_undo_1 : decode cX8_undo 1 = .ok (.getfield 32, 3) := by decide +kernel
theorem dX8_undo_4 : decode cX8_undo 4 = .ok (.getfield 196, 3) := by decide +kernel
theorem dX8_undo_7 : decode cX8_undo 7 = .ok (.ifCond .ne 6, 3) := by decide +kernel
theorem dX8_undo_10 : decode cX8_undo 10 = .ok (.bipush (-5), 2) := by decide +kernel
theorem dX8_undo_12 : decode cX8_undo 12 = .ok (.ireturn, 1) := by decide +kernel
theorem dX8_undo_13 : decode cX8_undo 13 = .ok (.aload_n 0, 1) := by decide +kernel
theorem dX8_undo_14 : decode cX8_undo 14 = .ok (.getfield 32, 3) := by decide +kernel
theorem dX8_undo_17 : decode cX8_undo 17 = .ok (.aload_n 0, 1) := by decide +kernel
theorem dX8_undo_18 : decode cX8_undo 18 = .ok (.getfield 10, 3) := by decide +kernel
theorem dX8_undo_21 : decode cX8_undo 21 = .ok (.invokevirtual 199, 3) := by decide +kernel
theorem dX8_undo_24 : decode cX8_undo 24 = .ok (.aload_n 0, 1) := by decide +kernel
theorem dX8_undo_25 : decode cX8_undo 25 = .ok (.getfield 32, 3) := by decide +kernel
theorem dX8_undo_28 : decode cX8_undo 28 = .ok (.getfield 196, 3) := by decide +kernel
theorem dX8_undo_31 : decode cX8_undo 31 = .ok (.ireturn, 1) := by decide +kernel
theorem dX8_keep_0 : decode cX8_keep 0 = .ok (.aload_n 0, 1) := by decide +kernel
theorem dX8_keep_1 : decode cX8_keep 1 = .ok (.getfield 16, 3) := by decide +kernel
theorem dX8_keep_4 : decode cX8_keep 4 = .ok (.aload_n 0, 1) := by decide +kernel
theorem dX8_keep_5 : decode cX8_keep 5 = .ok (.getfield 10, 3) := by decide +kernel
theorem dX8_keep_8 : decode cX8_keep 8 = .ok (.invokevirtual 202, 3) := by decide +kernel
theorem dX8_keep_11 : decode cX8_keep 11 = .ok (.aload_n 0, 1) := by decide +kernel
theorem dX8_keep_12 : decode cX8_keep 12 = .ok (.iconst 1, 1) := by decide +kernel
theorem dX8_keep_13 : decode cX8_keep 13 = .ok (.putfield 50, 3) := by decide +kernel
theorem dX8_keep_16 : decode cX8_keep 16 = .ok (.aload_n 0, 1) := by decide +kernel
theorem dX8_keep_17 : decode cX8_keep 17 = .ok (.getfield 10, 3) := by decide +kernel
theorem dX8_keep_20 : decode cX8_keep 20 = .ok (.getfield 179, 3) := by decide +kernel
theorem dX8_keep_23 : decode cX8_keep 23 = .ok (.ireturn, 1) := by decide +kernel
theorem dX8_restore_0 : decode cX8_restore 0 = .ok (.aload_n 0, 1) := by decide +kernel
theorem dX8_restore_1 : decode cX8_restore 1 = .ok (.getfield 50, 3) := by decide +kernel
theorem dX8_restore_4 : decode cX8_restore 4 = .ok (.ifCond .ne 6, 3) := by decide +kernel
theorem dX8_restore_7 : decode cX8_restore 7 = .ok (.bipush (-5), 2) := by decide +kernel
theorem dX8_restore_9 : decode cX8_restore 9 = .ok (.ireturn, 1) := by decide +kernel
theorem dX8_restore_10 : decode cX8_restore 10 = .ok (.aload_n 0, 1) := by decide +kernel
theorem dX8_restore_11 : decode cX8_restore 11 = .ok (.getfield 32, 3) := by decide +kernel
theorem dX8_restore_14 : decode cX8_restore 14 = .ok (.aload_n 0, 1) := by decide +kernel
theorem dX8_restore_15 : decode cX8_restore 15 = .ok (.getfield 10, 3) := by decide +kernel
theorem dX8_restore_18 : decode cX8_restore 18 = .ok (.invokevirtual 78, 3) := by decide +kernel
theorem dX8_restore_21 : decode cX8_restore 21 = .ok (.aload_n 0, 1) := by decide +kernel
theorem dX8_restore_22 : decode cX8_restore 22 = .ok (.getfield 10, 3) := by decide +kernel
theorem dX8_restore_25 : decode cX8_restore 25 = .ok (.aload_n 0, 1) := by decide +kernel
theorem dX8_restore_26 : decode cX8_restore 26 = .ok (.getfield 16, 3) := by decide +kernel
theorem dX8_restore_29 : decode cX8_restore 29 = .ok (.invokevirtual 202, 3) := by decide +kernel
theorem dX8_restore_32 : decode cX8_restore 32 = .ok (.aload_n 0, 1) := by decide +kernel
theorem dX8_restore_33 : decode cX8_restore 33 = .ok (.getfield 10, 3) := by decide +kernel
theorem dX8_restore_36 : decode cX8_restore 36 = .ok (.getfield 179, 3) := by decide +kernel
theorem dX8_restore_39 : decode cX8_restore 39 = .ok (.ireturn, 1) := by decide +kernel
theorem dX8_lamp_0 : decode cX8_lamp 0 = .ok (.iload_n 1, 1) := by decide +kernel
theorem dX8_lamp_1 : decode cX8_lamp 1 = .ok (.invokestatic 100, 3) := by decide +kernel
theorem dX8_lamp_4 : decode cX8_lamp 4 = .ok (.ifCond .ne 5, 3) := by decide +kernel
theorem dX8_lamp_7 : decode cX8_lamp 7 = .ok (.iconst (-1), 1) := by decide +kernel
theorem dX8_lamp_8 : decode cX8_lamp 8 = .ok (.ireturn, 1) := by decide +kernel
theorem dX8_lamp_9 : decode cX8_lamp 9 = .ok (.iload_n 2, 1) := by decide +kernel
theorem dX8_lamp_10 : decode cX8_lamp 10 = .ok (.iconst 0, 1) := by decide +kernel
theorem dX8_lamp_11 : decode cX8_lamp 11 = .ok (.bipush 7, 2) := by decide +kernel
theorem dX8_lamp_13 : decode cX8_lamp 13 = .ok (.invokestatic 71, 3) := by decide +kernel
theorem dX8_lamp_16 : decode cX8_lamp 16 = .ok (.ifCond .ne 6, 3) := by decide +kernel
theorem dX8_lamp_19 : decode cX8_lamp 19 = .ok (.bipush (-2), 2) := by decide +kernel
theorem dX8_lamp_21 : decode cX8_lamp 21 = .ok (.ireturn, 1) := by decide +kernel
theorem dX8_lamp_22 : decode cX8_lamp 22 = .ok (.aload_n 0, 1) := by decide +kernel
theorem dX8_lamp_23 : decode cX8_lamp 23 = .ok (.getfield 10, 3) := by decide +kernel
theorem dX8_lamp_26 : decode cX8_lamp 26 = .ok (.getfield 106, 3) := by decide +kernel
theorem dX8_lamp_29 : decode cX8_lamp 29 = .ok (.iload_n 1, 1) := by decide +kernel
theorem dX8_lamp_30 : decode cX8_lamp 30 = .ok (.invokevirtual 110, 3) := by decide +kernel
theorem dX8_lamp_33 : decode cX8_lamp 33 = .ok (.astore_n 3, 1) := by decide +kernel
theorem dX8_lamp_34 : decode cX8_lamp 34 = .ok (.aload_n 3, 1) := by decide +kernel
theorem dX8_lamp_35 : decode cX8_lamp 35 = .ok (.invokevirtual 116, 3) := by decide +kernel
theorem dX8_lamp_38 : decode cX8_lamp 38 = .ok (.ifCond .ne 6, 3) := by decide +kernel
theorem dX8_lamp_41 : decode cX8_lamp 41 = .ok (.bipush (-5), 2) := by decide +kernel
theorem dX8_lamp_43 : decode cX8_lamp 43 = .ok (.ireturn, 1) := by decide +kernel
theorem dX8_lamp_44 : decode cX8_lamp 44 = .ok (.iload_n 2, 1) := by decide +kernel
theorem dX8_lamp_45 : decode cX8_lamp 45 = .ok (.tableswitch 84 0 6 #[43, 48, 53, 58, 63, 68, 76], 43) := by decide +kernel
theorem dX8_lamp_88 : decode cX8_lamp 88 = .ok (.aload_n 3, 1) := by decide +kernel
theorem dX8_lamp_89 : decode cX8_lamp 89 = .ok (.getfield 204, 3) := by decide +kernel
theorem dX8_lamp_92 : decode cX8_lamp 92 = .ok (.ireturn, 1) := by decide +kernel
theorem dX8_lamp_93 : decode cX8_lamp 93 = .ok (.aload_n 3, 1) := by decide +kernel
theorem dX8_lamp_94 : decode cX8_lamp 94 = .ok (.getfield 207, 3) := by decide +kernel
theorem dX8_lamp_97 : decode cX8_lamp 97 = .ok (.ireturn, 1) := by decide +kernel
theorem dX8_lamp_98 : decode cX8_lamp 98 = .ok (.aload_n 3, 1) := by decide +kernel
theorem dX8_lamp_99 : decode cX8_lamp 99 = .ok (.getfield 130, 3) := by decide +kernel
theorem dX8_lamp_102 : decode cX8_lamp 102 = .ok (.ireturn, 1) := by decide +kernel
theorem dX8_lamp_103 : decode cX8_lamp 103 = .ok (.aload_n 3, 1) := by decide +kernel
theorem dX8_lamp_104 : decode cX8_lamp 104 = .ok (.getfield 124, 3) := by decide +kernel
theorem dX8_lamp_107 : decode cX8_lamp 107 = .ok (.ireturn, 1) := by decide +kernel
theorem dX8_lamp_108 : decode cX8_lamp 108 = .ok (.aload_n 3, 1) := by decide +kernel
theorem dX8_lamp_109 : decode cX8_lamp 109 = .ok (.invokevirtual 210, 3) := by decide +kernel
theorem dX8_lamp_112 : decode cX8_lamp 112 = .ok (.ireturn, 1) := by decide +kernel
theorem dX8_lamp_113 : decode cX8_lamp 113 = .ok (.aload_n 3, 1) := by decide +kernel
theorem dX8_lamp_114 : decode cX8_lamp 114 = .ok (.getfield 213, 3) := by decide +kernel
theorem dX8_lamp_117 : decode cX8_lamp 117 = .ok (.invokestatic 216, 3) := by decide +kernel
theorem dX8_lamp_120 : decode cX8_lamp 120 = .ok (.ireturn, 1) := by decide +kernel
theorem dX8_lamp_121 : decode cX8_lamp 121 = .ok (.aload_n 3, 1) := by decide +kernel
theorem dX8_lamp_122 : decode cX8_lamp 122 = .ok (.invokevirtual 220, 3) := by decide +kernel
theorem dX8_lamp_125 : decode cX8_lamp 125 = .ok (.invokestatic 216, 3) := by decide +kernel
theorem dX8_lamp_128 : decode cX8_lamp 128 = .ok (.ireturn, 1) := by decide +kernel
theorem dX8_lamp_129 : decode cX8_lamp 129 = .ok (.aload_n 3, 1) := by decide +kernel
theorem dX8_lamp_130 : decode cX8_lamp 130 = .ok (.getfield 223, 3) := by decide +kernel
theorem dX8_lamp_133 : decode cX8_lamp 133 = .ok (.ireturn, 1) := by decide +kernel
theorem dX8_wheel_0 : decode cX8_wheel 0 = .ok (.iload_n 1, 1) := by decide +kernel
theorem dX8_wheel_1 : decode cX8_wheel 1 = .ok (.tableswitch 132 0 7 #[47, 58, 69, 80, 94, 105, 116, 124], 47) := by decide +kernel
theorem dX8_wheel_48 : decode cX8_wheel 48 = .ok (.aload_n 0, 1) := by decide +kernel
theorem dX8_wheel_49 : decode cX8_wheel 49 = .ok (.getfield 10, 3) := by decide +kernel
theorem dX8_wheel_52 : decode cX8_wheel 52 = .ok (.getfield 106, 3) := by decide +kernel
theorem dX8_wheel_55 : decode cX8_wheel 55 = .ok (.getfield 139, 3) := by decide +kernel
theorem dX8_wheel_58 : decode cX8_wheel 58 = .ok (.ireturn, 1) := by decide +kernel
theorem dX8_wheel_59 : decode cX8_wheel 59 = .ok (.aload_n 0, 1) := by decide +kernel
theorem dX8_wheel_60 : decode cX8_wheel 60 = .ok (.getfield 10, 3) := by decide +kernel
theorem dX8_wheel_63 : decode cX8_wheel 63 = .ok (.getfield 106, 3) := by decide +kernel
theorem dX8_wheel_66 : decode cX8_wheel 66 = .ok (.getfield 226, 3) := by decide +kernel
theorem dX8_wheel_69 : decode cX8_wheel 69 = .ok (.ireturn, 1) := by decide +kernel
theorem dX8_wheel_70 : decode cX8_wheel 70 = .ok (.aload_n 0, 1) := by decide +kernel
theorem dX8_wheel_71 : decode cX8_wheel 71 = .ok (.getfield 10, 3) := by decide +kernel
theorem dX8_wheel_74 : decode cX8_wheel 74 = .ok (.getfield 106, 3) := by decide +kernel
theorem dX8_wheel_77 : decode cX8_wheel 77 = .ok (.getfield 145, 3) := by decide +kernel
theorem dX8_wheel_80 : decode cX8_wheel 80 = .ok (.ireturn, 1) := by decide +kernel
theorem dX8_wheel_81 : decode cX8_wheel 81 = .ok (.aload_n 0, 1) := by decide +kernel
theorem dX8_wheel_82 : decode cX8_wheel 82 = .ok (.getfield 10, 3) := by decide +kernel
theorem dX8_wheel_85 : decode cX8_wheel 85 = .ok (.getfield 106, 3) := by decide +kernel
theorem dX8_wheel_88 : decode cX8_wheel 88 = .ok (.getfield 229, 3) := by decide +kernel
theorem dX8_wheel_91 : decode cX8_wheel 91 = .ok (.invokestatic 216, 3) := by decide +kernel
theorem dX8_wheel_94 : decode cX8_wheel 94 = .ok (.ireturn, 1) := by decide +kernel
theorem dX8_wheel_95 : decode cX8_wheel 95 = .ok (.aload_n 0, 1) := by decide +kernel
theorem dX8_wheel_96 : decode cX8_wheel 96 = .ok (.getfield 10, 3) := by decide +kernel
theorem dX8_wheel_99 : decode cX8_wheel 99 = .ok (.invokevirtual 232, 3) := by decide +kernel
theorem dX8_wheel_102 : decode cX8_wheel 102 = .ok (.invokestatic 216, 3) := by decide +kernel
theorem dX8_wheel_105 : decode cX8_wheel 105 = .ok (.ireturn, 1) := by decide +kernel
theorem dX8_wheel_106 : decode cX8_wheel 106 = .ok (.aload_n 0, 1) := by decide +kernel
theorem dX8_wheel_107 : decode cX8_wheel 107 = .ok (.getfield 10, 3) := by decide +kernel
theorem dX8_wheel_110 : decode cX8_wheel 110 = .ok (.getfield 106, 3) := by decide +kernel
theorem dX8_wheel_113 : decode cX8_wheel 113 = .ok (.invokevirtual 235, 3) := by decide +kernel
theorem dX8_wheel_116 : decode cX8_wheel 116 = .ok (.ireturn, 1) := by decide +kernel
theorem dX8_wheel_117 : decode cX8_wheel 117 = .ok (.aload_n 0, 1) := by decide +kernel
theorem dX8_wheel_118 : decode cX8_wheel 118 = .ok (.getfield 10, 3) := by decide +kernel
theorem dX8_wheel_121 : decode cX8_wheel 121 = .ok (.getfield 89, 3) := by decide +kernel
theorem dX8_wheel_124 : decode cX8_wheel 124 = .ok (.ireturn, 1) := by decide +kernel
theorem dX8_wheel_125 : decode cX8_wheel 125 = .ok (.aload_n 0, 1) := by decide +kernel
theorem dX8_wheel_126 : decode cX8_wheel 126 = .ok (.getfield 10, 3) := by decide +kernel
theorem dX8_wheel_129 : decode cX8_wheel 129 = .ok (.getfield 93, 3) := by decide +kernel
theorem dX8_wheel_132 : decode cX8_wheel 132 = .ok (.ireturn, 1) := by decide +kernel
theorem dX8_wheel_133 : decode cX8_wheel 133 = .ok (.bipush (-2), 2) := by decide +kernel
theorem dX8_wheel_135 : decode cX8_wheel 135 = .ok (.ireturn, 1) := by decide +kernel
theorem dX8_tiredIn_0 : decode cX8_tiredIn 0 = .ok (.iload_n 1, 1) := by decide +kernel
theorem dX8_tiredIn_1 : decode cX8_tiredIn 1 = .ok (.invokestatic 100, 3) := by decide +kernel
theorem dX8_tiredIn_4 : decode cX8_tiredIn 4 = .ok (.ifCond .ne 5, 3) := by decide +kernel
theorem dX8_tiredIn_7 : decode cX8_tiredIn 7 = .ok (.iconst (-1), 1) := by decide +kernel
theorem dX8_tiredIn_8 : decode cX8_tiredIn 8 = .ok (.ireturn, 1) := by decide +kernel
theorem dX8_tiredIn_9 : decode cX8_tiredIn 9 = .ok (.aload_n 0, 1) := by decide +kernel
theorem dX8_tiredIn_10 : decode cX8_tiredIn 10 = .ok (.getfield 10, 3) := by decide +kernel
theorem dX8_tiredIn_13 : decode cX8_tiredIn 13 = .ok (.getfield 106, 3) := by decide +kernel
theorem dX8_tiredIn_16 : decode cX8_tiredIn 16 = .ok (.iload_n 1, 1) := by decide +kernel
theorem dX8_tiredIn_17 : decode cX8_tiredIn 17 = .ok (.invokevirtual 110, 3) := by decide +kernel
theorem dX8_tiredIn_20 : decode cX8_tiredIn 20 = .ok (.astore_n 2, 1) := by decide +kernel
theorem dX8_tiredIn_21 : decode cX8_tiredIn 21 = .ok (.aload_n 2, 1) := by decide +kernel
theorem dX8_tiredIn_22 : decode cX8_tiredIn 22 = .ok (.invokevirtual 238, 3) := by decide +kernel
theorem dX8_tiredIn_25 : decode cX8_tiredIn 25 = .ok (.ifCond .ne 6, 3) := by decide +kernel
theorem dX8_tiredIn_28 : decode cX8_tiredIn 28 = .ok (.bipush (-4), 2) := by decide +kernel
theorem dX8_tiredIn_30 : decode cX8_tiredIn 30 = .ok (.ireturn, 1) := by decide +kernel
theorem dX8_tiredIn_31 : decode cX8_tiredIn 31 = .ok (.aload_n 2, 1) := by decide +kernel
theorem dX8_tiredIn_32 : decode cX8_tiredIn 32 = .ok (.getfield 213, 3) := by decide +kernel
theorem dX8_tiredIn_35 : decode cX8_tiredIn 35 = .ok (.ifCond .eq 5, 3) := by decide +kernel
theorem dX8_tiredIn_38 : decode cX8_tiredIn 38 = .ok (.iconst 0, 1) := by decide +kernel
theorem dX8_tiredIn_39 : decode cX8_tiredIn 39 = .ok (.ireturn, 1) := by decide +kernel
theorem dX8_tiredIn_40 : decode cX8_tiredIn 40 = .ok (.aload_n 0, 1) := by decide +kernel
theorem dX8_tiredIn_41 : decode cX8_tiredIn 41 = .ok (.getfield 25, 3) := by decide +kernel
theorem dX8_tiredIn_44 : decode cX8_tiredIn 44 = .ok (.aload_n 2, 1) := by decide +kernel
theorem dX8_tiredIn_45 : decode cX8_tiredIn 45 = .ok (.invokevirtual 241, 3) := by decide +kernel
theorem dX8_tiredIn_48 : decode cX8_tiredIn 48 = .ok (.aload_n 0, 1) := by decide +kernel
theorem dX8_tiredIn_49 : decode cX8_tiredIn 49 = .ok (.getfield 10, 3) := by decide +kernel
theorem dX8_tiredIn_52 : decode cX8_tiredIn 52 = .ok (.getfield 75, 3) := by decide +kernel
theorem dX8_tiredIn_55 : decode cX8_tiredIn 55 = .ok (.iconst 0, 1) := by decide +kernel
theorem dX8_tiredIn_56 : decode cX8_tiredIn 56 = .ok (.invokestatic 62, 3) := by decide +kernel
theorem dX8_tiredIn_59 : decode cX8_tiredIn 59 = .ok (.istore_n 3, 1) := by decide +kernel
theorem dX8_tiredIn_60 : decode cX8_tiredIn 60 = .ok (.aload_n 0, 1) := by decide +kernel
theorem dX8_tiredIn_61 : decode cX8_tiredIn 61 = .ok (.getfield 10, 3) := by decide +kernel
theorem dX8_tiredIn_64 : decode cX8_tiredIn 64 = .ok (.getfield 75, 3) := by decide +kernel
theorem dX8_tiredIn_67 : decode cX8_tiredIn 67 = .ok (.iconst 1, 1) := by decide +kernel
theorem dX8_tiredIn_68 : decode cX8_tiredIn 68 = .ok (.invokestatic 62, 3) := by decide +kernel
theorem dX8_tiredIn_71 : decode cX8_tiredIn 71 = .ok (.istore 4, 2) := by decide +kernel
theorem dX8_tiredIn_73 : decode cX8_tiredIn 73 = .ok (.aload_n 2, 1) := by decide +kernel
theorem dX8_tiredIn_74 : decode cX8_tiredIn 74 = .ok (.invokevirtual 244, 3) := by decide +kernel
theorem dX8_tiredIn_77 : decode cX8_tiredIn 77 = .ok (.istore 5, 2) := by decide +kernel
theorem dX8_tiredIn_79 : decode cX8_tiredIn 79 = .ok (.iconst 1, 1) := by decide +kernel
theorem dX8_tiredIn_80 : decode cX8_tiredIn 80 = .ok (.istore 6, 2) := by decide +kernel
theorem dX8_tiredIn_82 : decode cX8_tiredIn 82 = .ok (.iload 6, 2) := by decide +kernel
theorem dX8_tiredIn_84 : decode cX8_tiredIn 84 = .ok (.iload 5, 2) := by decide +kernel
theorem dX8_tiredIn_86 : decode cX8_tiredIn 86 = .ok (.if_icmp .gt 25, 3) := by decide +kernel
theorem dX8_tiredIn_89 : decode cX8_tiredIn 89 = .ok (.aload_n 0, 1) := by decide +kernel
theorem dX8_tiredIn_90 : decode cX8_tiredIn 90 = .ok (.getfield 25, 3) := by decide +kernel
theorem dX8_tiredIn_93 : decode cX8_tiredIn 93 = .ok (.iload_n 3, 1) := by decide +kernel
theorem dX8_tiredIn_94 : decode cX8_tiredIn 94 = .ok (.iload 4, 2) := by decide +kernel
theorem dX8_tiredIn_96 : decode cX8_tiredIn 96 = .ok (.invokevirtual 247, 3) := by decide +kernel
theorem dX8_tiredIn_99 : decode cX8_tiredIn 99 = .ok (.ifCond .eq 6, 3) := by decide +kernel
theorem dX8_tiredIn_102 : decode cX8_tiredIn 102 = .ok (.iload 6, 2) := by decide +kernel
theorem dX8_tiredIn_104 : decode cX8_tiredIn 104 = .ok (.ireturn, 1) := by decide +kernel
theorem dX8_tiredIn_105 : decode cX8_tiredIn 105 = .ok (.iinc 6 1, 3) := by decide +kernel
theorem dX8_tiredIn_108 : decode cX8_tiredIn 108 = .ok (.goto (-26), 3) := by decide +kernel
theorem dX8_tiredIn_111 : decode cX8_tiredIn 111 = .ok (.bipush (-5), 2) := by decide +kernel
theorem dX8_tiredIn_113 : decode cX8_tiredIn 113 = .ok (.ireturn, 1) := by decide +kernel
theorem dX8_darkIn_0 : decode cX8_darkIn 0 = .ok (.aload_n 0, 1) := by decide +kernel
theorem dX8_darkIn_1 : decode cX8_darkIn 1 = .ok (.getfield 19, 3) := by decide +kernel
theorem dX8_darkIn_4 : decode cX8_darkIn 4 = .ok (.aload_n 0, 1) := by decide +kernel
theorem dX8_darkIn_5 : decode cX8_darkIn 5 = .ok (.getfield 10, 3) := by decide +kernel
theorem dX8_darkIn_8 : decode cX8_darkIn 8 = .ok (.invokevirtual 202, 3) := by decide +kernel
theorem dX8_darkIn_11 : decode cX8_darkIn 11 = .ok (.iconst 0, 1) := by decide +kernel
theorem dX8_darkIn_12 : decode cX8_darkIn 12 = .ok (.istore_n 1, 1) := by decide +kernel
theorem dX8_darkIn_13 : decode cX8_darkIn 13 = .ok (.iload_n 1, 1) := by decide +kernel
theorem dX8_darkIn_14 : decode cX8_darkIn 14 = .ok (.sipush 3000, 3) := by decide +kernel
theorem dX8_darkIn_17 : decode cX8_darkIn 17 = .ok (.if_icmp .gt 22, 3) := by decide +kernel
theorem dX8_darkIn_20 : decode cX8_darkIn 20 = .ok (.aload_n 0, 1) := by decide +kernel
theorem dX8_darkIn_21 : decode cX8_darkIn 21 = .ok (.getfield 19, 3) := by decide +kernel
theorem dX8_darkIn_24 : decode cX8_darkIn 24 = .ok (.iconst 0, 1) := by decide +kernel
theorem dX8_darkIn_25 : decode cX8_darkIn 25 = .ok (.invokevirtual 185, 3) := by decide +kernel
theorem dX8_darkIn_28 : decode cX8_darkIn 28 = .ok (.ifCond .eq 5, 3) := by decide +kernel
theorem dX8_darkIn_31 : decode cX8_darkIn 31 = .ok (.iload_n 1, 1) := by decide +kernel
theorem dX8_darkIn_32 : decode cX8_darkIn 32 = .ok (.ireturn, 1) := by decide +kernel
theorem dX8_darkIn_33 : decode cX8_darkIn 33 = .ok (.iinc 1 1, 3) := by decide +kernel
theorem dX8_darkIn_36 : decode cX8_darkIn 36 = .ok (.goto (-23), 3) := by decide +kernel
theorem dX8_darkIn_39 : decode cX8_darkIn 39 = .ok (.bipush (-5), 2) := by decide +kernel
theorem dX8_darkIn_41 : decode cX8_darkIn 41 = .ok (.ireturn, 1) := by decide +kernel
theorem dX8_ranked_0 : decode cX8_ranked 0 = .ok (.iload_n 1, 1) := by decide +kernel
theorem dX8_ranked_1 : decode cX8_ranked 1 = .ok (.ifCond .ge 6, 3) := by decide +kernel
theorem dX8_ranked_4 : decode cX8_ranked 4 = .ok (.bipush (-2), 2) := by decide +kernel
theorem dX8_ranked_6 : decode cX8_ranked 6 = .ok (.ireturn, 1) := by decide +kernel
theorem dX8_ranked_7 : decode cX8_ranked 7 = .ok (.aload_n 0, 1) := by decide +kernel
theorem dX8_ranked_8 : decode cX8_ranked 8 = .ok (.getfield 10, 3) := by decide +kernel
theorem dX8_ranked_11 : decode cX8_ranked 11 = .ok (.getfield 106, 3) := by decide +kernel
theorem dX8_ranked_14 : decode cX8_ranked 14 = .ok (.iload_n 1, 1) := by decide +kernel
theorem dX8_ranked_15 : decode cX8_ranked 15 = .ok (.invokevirtual 251, 3) := by decide +kernel
theorem dX8_ranked_18 : decode cX8_ranked 18 = .ok (.ireturn, 1) := by decide +kernel
theorem dX8_planned_0 : decode cX8_planned 0 = .ok (.iload_n 1, 1) := by decide +kernel
theorem dX8_planned_1 : decode cX8_planned 1 = .ok (.ifCond .lt 12, 3) := by decide +kernel
theorem dX8_planned_4 : decode cX8_planned 4 = .ok (.iload_n 2, 1) := by decide +kernel
theorem dX8_planned_5 : decode cX8_planned 5 = .ok (.iconst 0, 1) := by decide +kernel
theorem dX8_planned_6 : decode cX8_planned 6 = .ok (.iconst 2, 1) := by decide +kernel
theorem dX8_planned_7 : decode cX8_planned 7 = .ok (.invokestatic 71, 3) := by decide +kernel
theorem dX8_planned_10 : decode cX8_planned 10 = .ok (.ifCond .ne 6, 3) := by decide +kernel
theorem dX8_planned_13 : decode cX8_planned 13 = .ok (.bipush (-2), 2) := by decide +kernel
theorem dX8_planned_15 : decode cX8_planned 15 = .ok (.ireturn, 1) := by decide +kernel
theorem dX8_planned_16 : decode cX8_planned 16 = .ok (.aload_n 0, 1) := by decide +kernel
theorem dX8_planned_17 : decode cX8_planned 17 = .ok (.getfield 10, 3) := by decide +kernel
theorem dX8_planned_20 : decode cX8_planned 20 = .ok (.getfield 154, 3) := by decide +kernel
theorem dX8_planned_23 : decode cX8_planned 23 = .ok (.iload_n 1, 1) := by decide +kernel
theorem dX8_planned_24 : decode cX8_planned 24 = .ok (.invokevirtual 255, 3) := by decide +kernel
theorem dX8_planned_27 : decode cX8_planned 27 = .ok (.istore_n 3, 1) := by decide +kernel
theorem dX8_planned_28 : decode cX8_planned 28 = .ok (.iload_n 3, 1) := by decide +kernel
theorem dX8_planned_29 : decode cX8_planned 29 = .ok (.bipush (-5), 2) := by decide +kernel
theorem dX8_planned_31 : decode cX8_planned 31 = .ok (.if_icmp .ne 6, 3) := by decide +kernel
theorem dX8_planned_34 : decode cX8_planned 34 = .ok (.bipush (-5), 2) := by decide +kernel
theorem dX8_planned_36 : decode cX8_planned 36 = .ok (.ireturn, 1) := by decide +kernel
theorem dX8_planned_37 : decode cX8_planned 37 = .ok (.iload_n 2, 1) := by decide +kernel
theorem dX8_planned_38 : decode cX8_planned 38 = .ok (.lookupswitch 56 #[(0, 26), (1, 41)], 26) := by decide +kernel
theorem dX8_planned_64 : decode cX8_planned 64 = .ok (.aload_n 0, 1) := by decide +kernel
theorem dX8_planned_65 : decode cX8_planned 65 = .ok (.getfield 10, 3) := by decide +kernel
theorem dX8_planned_68 : decode cX8_planned 68 = .ok (.getfield 154, 3) := by decide +kernel
theorem dX8_planned_71 : decode cX8_planned 71 = .ok (.getfield 258, 3) := by decide +kernel
theorem dX8_planned_74 : decode cX8_planned 74 = .ok (.iload_n 3, 1) := by decide +kernel
theorem dX8_planned_75 : decode cX8_planned 75 = .ok (.invokestatic 62, 3) := by decide +kernel
theorem dX8_planned_78 : decode cX8_planned 78 = .ok (.ireturn, 1) := by decide +kernel
theorem dX8_planned_79 : decode cX8_planned 79 = .ok (.aload_n 0, 1) := by decide +kernel
theorem dX8_planned_80 : decode cX8_planned 80 = .ok (.getfield 10, 3) := by decide +kernel
theorem dX8_planned_83 : decode cX8_planned 83 = .ok (.getfield 154, 3) := by decide +kernel
theorem dX8_planned_86 : decode cX8_planned 86 = .ok (.getfield 261, 3) := by decide +kernel
theorem dX8_planned_89 : decode cX8_planned 89 = .ok (.iload_n 3, 1) := by decide +kernel
theorem dX8_planned_90 : decode cX8_planned 90 = .ok (.invokestatic 62, 3) := by decide +kernel
theorem dX8_planned_93 : decode cX8_planned 93 = .ok (.ireturn, 1) := by decide +kernel
theorem dX8_planned_94 : decode cX8_planned 94 = .ok (.aload_n 0, 1) := by decide +kernel
theorem dX8_planned_95 : decode cX8_planned 95 = .ok (.getfield 10, 3) := by decide +kernel
theorem dX8_planned_98 : decode cX8_planned 98 = .ok (.getfield 154, 3) := by decide +kernel
theorem dX8_planned_101 : decode cX8_planned 101 = .ok (.getfield 264, 3) := by decide +kernel
theorem dX8_planned_104 : decode cX8_planned 104 = .ok (.iload_n 3, 1) := by decide +kernel
theorem dX8_planned_105 : decode cX8_planned 105 = .ok (.invokestatic 62, 3) := by decide +kernel
theorem dX8_planned_108 : decode cX8_planned 108 = .ok (.ireturn, 1) := by decide +kernel
theorem dX8_event_0 : decode cX8_event 0 = .ok (.iload_n 1, 1) := by decide +kernel
theorem dX8_event_1 : decode cX8_event 1 = .ok (.ifCond .lt 12, 3) := by decide +kernel
theorem dX8_event_4 : decode cX8_event 4 = .ok (.iload_n 2, 1) := by decide +kernel
theorem dX8_event_5 : decode cX8_event 5 = .ok (.iconst 0, 1) := by decide +kernel
theorem dX8_event_6 : decode cX8_event 6 = .ok (.iconst 2, 1) := by decide +kernel
theorem dX8_event_7 : decode cX8_event 7 = .ok (.invokestatic 71, 3) := by decide +kernel
theorem dX8_event_10 : decode cX8_event 10 = .ok (.ifCond .ne 6, 3) := by decide +kernel
theorem dX8_event_13 : decode cX8_event 13 = .ok (.bipush (-2), 2) := by decide +kernel
theorem dX8_event_15 : decode cX8_event 15 = .ok (.ireturn, 1) := by decide +kernel
theorem dX8_event_16 : decode cX8_event 16 = .ok (.aload_n 0, 1) := by decide +kernel
theorem dX8_event_17 : decode cX8_event 17 = .ok (.getfield 10, 3) := by decide +kernel
theorem dX8_event_20 : decode cX8_event 20 = .ok (.getfield 267, 3) := by decide +kernel
theorem dX8_event_23 : decode cX8_event 23 = .ok (.iload_n 1, 1) := by decide +kernel
theorem dX8_event_24 : decode cX8_event 24 = .ok (.invokevirtual 271, 3) := by decide +kernel
theorem dX8_event_27 : decode cX8_event 27 = .ok (.istore_n 3, 1) := by decide +kernel
theorem dX8_event_28 : decode cX8_event 28 = .ok (.iload_n 3, 1) := by decide +kernel
theorem dX8_event_29 : decode cX8_event 29 = .ok (.bipush (-5), 2) := by decide +kernel
theorem dX8_event_31 : decode cX8_event 31 = .ok (.if_icmp .ne 6, 3) := by decide +kernel
theorem dX8_event_34 : decode cX8_event 34 = .ok (.bipush (-5), 2) := by decide +kernel
theorem dX8_event_36 : decode cX8_event 36 = .ok (.ireturn, 1) := by decide +kernel
theorem dX8_event_37 : decode cX8_event 37 = .ok (.iload_n 2, 1) := by decide +kernel
theorem dX8_event_38 : decode cX8_event 38 = .ok (.lookupswitch 56 #[(0, 26), (1, 41)], 26) := by decide +kernel
theorem dX8_event_64 : decode cX8_event 64 = .ok (.aload_n 0, 1) := by decide +kernel
theorem dX8_event_65 : decode cX8_event 65 = .ok (.getfield 10, 3) := by decide +kernel
theorem dX8_event_68 : decode cX8_event 68 = .ok (.getfield 267, 3) := by decide +kernel
theorem dX8_event_71 : decode cX8_event 71 = .ok (.getfield 276, 3) := by decide +kernel
theorem dX8_event_74 : decode cX8_event 74 = .ok (.iload_n 3, 1) := by decide +kernel
theorem dX8_event_75 : decode cX8_event 75 = .ok (.invokestatic 62, 3) := by decide +kernel
theorem dX8_event_78 : decode cX8_event 78 = .ok (.ireturn, 1) := by decide +kernel
theorem dX8_event_79 : decode cX8_event 79 = .ok (.aload_n 0, 1) := by decide +kernel
theorem dX8_event_80 : decode cX8_event 80 = .ok (.getfield 10, 3) := by decide +kernel
theorem dX8_event_83 : decode cX8_event 83 = .ok (.getfield 267, 3) := by decide +kernel
theorem dX8_event_86 : decode cX8_event 86 = .ok (.getfield 279, 3) := by decide +kernel
theorem dX8_event_89 : decode cX8_event 89 = .ok (.iload_n 3, 1) := by decide +kernel
theorem dX8_event_90 : decode cX8_event 90 = .ok (.invokestatic 62, 3) := by decide +kernel
theorem dX8_event_93 : decode cX8_event 93 = .ok (.ireturn, 1) := by decide +kernel
theorem dX8_event_94 : decode cX8_event 94 = .ok (.aload_n 0, 1) := by decide +kernel
theorem dX8_event_95 : decode cX8_event 95 = .ok (.getfield 10, 3) := by decide +kernel
theorem dX8_event_98 : decode cX8_event 98 = .ok (.getfield 267, 3) := by decide +kernel
theorem dX8_event_101 : decode cX8_event 101 = .ok (.getfield 282, 3) := by decide +kernel
theorem dX8_event_104 : decode cX8_event 104 = .ok (.iload_n 3, 1) := by decide +kernel
theorem dX8_event_105 : decode cX8_event 105 = .ok (.invokestatic 62, 3) := by decide +kernel
theorem dX8_event_108 : decode cX8_event 108 = .ok (.ireturn, 1) := by decide +kernel
theorem dX8_count_0 : decode cX8_count 0 = .ok (.iload_n 1, 1) := by decide +kernel
theorem dX8_count_1 : decode cX8_count 1 = .ok (.tableswitch 185 0 13 #[71, 79, 90, 101, 112, 112, 112, 126, 134, 142, 150, 158, 169, 177], 71) := by decide +kernel
theorem dX8_count_72 : decode cX8_count 72 = .ok (.aload_n 0, 1) := by decide +kernel
theorem dX8_count_73 : decode cX8_count 73 = .ok (.getfield 10, 3) := by decide +kernel
theorem dX8_count_76 : decode cX8_count 76 = .ok (.getfield 179, 3) := by decide +kernel
theorem dX8_count_79 : decode cX8_count 79 = .ok (.ireturn, 1) := by decide +kernel
theorem dX8_count_80 : decode cX8_count 80 = .ok (.aload_n 0, 1) := by decide +kernel
theorem dX8_count_81 : decode cX8_count 81 = .ok (.getfield 10, 3) := by decide +kernel
theorem dX8_count_84 : decode cX8_count 84 = .ok (.getfield 106, 3) := by decide +kernel
theorem dX8_count_87 : decode cX8_count 87 = .ok (.invokevirtual 283, 3) := by decide +kernel
theorem dX8_count_90 : decode cX8_count 90 = .ok (.ireturn, 1) := by decide +kernel
theorem dX8_count_91 : decode cX8_count 91 = .ok (.aload_n 0, 1) := by decide +kernel
theorem dX8_count_92 : decode cX8_count 92 = .ok (.getfield 10, 3) := by decide +kernel
theorem dX8_count_95 : decode cX8_count 95 = .ok (.getfield 106, 3) := by decide +kernel
theorem dX8_count_98 : decode cX8_count 98 = .ok (.invokevirtual 286, 3) := by decide +kernel
theorem dX8_count_101 : decode cX8_count 101 = .ok (.ireturn, 1) := by decide +kernel
theorem dX8_count_102 : decode cX8_count 102 = .ok (.aload_n 0, 1) := by decide +kernel
theorem dX8_count_103 : decode cX8_count 103 = .ok (.getfield 10, 3) := by decide +kernel
theorem dX8_count_106 : decode cX8_count 106 = .ok (.getfield 106, 3) := by decide +kernel
theorem dX8_count_109 : decode cX8_count 109 = .ok (.invokevirtual 289, 3) := by decide +kernel
theorem dX8_count_112 : decode cX8_count 112 = .ok (.ireturn, 1) := by decide +kernel
theorem dX8_count_113 : decode cX8_count 113 = .ok (.aload_n 0, 1) := by decide +kernel
theorem dX8_count_114 : decode cX8_count 114 = .ok (.getfield 10, 3) := by decide +kernel
theorem dX8_count_117 : decode cX8_count 117 = .ok (.getfield 151, 3) := by decide +kernel
theorem dX8_count_120 : decode cX8_count 120 = .ok (.iload_n 1, 1) := by decide +kernel
theorem dX8_count_121 : decode cX8_count 121 = .ok (.iconst 4, 1) := by decide +kernel
theorem dX8_count_122 : decode cX8_count 122 = .ok (.isub, 1) := by decide +kernel
theorem dX8_count_123 : decode cX8_count 123 = .ok (.invokestatic 62, 3) := by decide +kernel
theorem dX8_count_126 : decode cX8_count 126 = .ok (.ireturn, 1) := by decide +kernel
theorem dX8_count_127 : decode cX8_count 127 = .ok (.aload_n 0, 1) := by decide +kernel
theorem dX8_count_128 : decode cX8_count 128 = .ok (.getfield 10, 3) := by decide +kernel
theorem dX8_count_131 : decode cX8_count 131 = .ok (.getfield 182, 3) := by decide +kernel
theorem dX8_count_134 : decode cX8_count 134 = .ok (.ireturn, 1) := by decide +kernel
theorem dX8_count_135 : decode cX8_count 135 = .ok (.aload_n 0, 1) := by decide +kernel
theorem dX8_count_136 : decode cX8_count 136 = .ok (.getfield 10, 3) := by decide +kernel
theorem dX8_count_139 : decode cX8_count 139 = .ok (.getfield 292, 3) := by decide +kernel
theorem dX8_count_142 : decode cX8_count 142 = .ok (.ireturn, 1) := by decide +kernel
theorem dX8_count_143 : decode cX8_count 143 = .ok (.aload_n 0, 1) := by decide +kernel
theorem dX8_count_144 : decode cX8_count 144 = .ok (.getfield 10, 3) := by decide +kernel
theorem dX8_count_147 : decode cX8_count 147 = .ok (.getfield 295, 3) := by decide +kernel
theorem dX8_count_150 : decode cX8_count 150 = .ok (.ireturn, 1) := by decide +kernel
theorem dX8_count_151 : decode cX8_count 151 = .ok (.aload_n 0, 1) := by decide +kernel
theorem dX8_count_152 : decode cX8_count 152 = .ok (.getfield 10, 3) := by decide +kernel
theorem dX8_count_155 : decode cX8_count 155 = .ok (.getfield 298, 3) := by decide +kernel
theorem dX8_count_158 : decode cX8_count 158 = .ok (.ireturn, 1) := by decide +kernel
theorem dX8_count_159 : decode cX8_count 159 = .ok (.aload_n 0, 1) := by decide +kernel
theorem dX8_count_160 : decode cX8_count 160 = .ok (.getfield 10, 3) := by decide +kernel
theorem dX8_count_163 : decode cX8_count 163 = .ok (.getfield 154, 3) := by decide +kernel
theorem dX8_count_166 : decode cX8_count 166 = .ok (.getfield 164, 3) := by decide +kernel
theorem dX8_count_169 : decode cX8_count 169 = .ok (.ireturn, 1) := by decide +kernel
theorem dX8_count_170 : decode cX8_count 170 = .ok (.aload_n 0, 1) := by decide +kernel
theorem dX8_count_171 : decode cX8_count 171 = .ok (.getfield 32, 3) := by decide +kernel
theorem dX8_count_174 : decode cX8_count 174 = .ok (.getfield 196, 3) := by decide +kernel
theorem dX8_count_177 : decode cX8_count 177 = .ok (.ireturn, 1) := by decide +kernel
theorem dX8_count_178 : decode cX8_count 178 = .ok (.aload_n 0, 1) := by decide +kernel
theorem dX8_count_179 : decode cX8_count 179 = .ok (.getfield 39, 3) := by decide +kernel
theorem dX8_count_182 : decode cX8_count 182 = .ok (.getfield 193, 3) := by decide +kernel
theorem dX8_count_185 : decode cX8_count 185 = .ok (.ireturn, 1) := by decide +kernel
theorem dX8_count_186 : decode cX8_count 186 = .ok (.bipush (-2), 2) := by decide +kernel
theorem dX8_count_188 : decode cX8_count 188 = .ok (.ireturn, 1) := by decide +kernel
theorem dX8_setting_0 : decode cX8_setting 0 = .ok (.iload_n 1, 1) := by decide +kernel
theorem dX8_setting_1 : decode cX8_setting 1 = .ok (.invokestatic 54, 3) := by decide +kernel
theorem dX8_setting_4 : decode cX8_setting 4 = .ok (.ifCond .ne 5, 3) := by decide +kernel
theorem dX8_setting_7 : decode cX8_setting 7 = .ok (.iconst (-1), 1) := by decide +kernel
theorem dX8_setting_8 : decode cX8_setting 8 = .ok (.ireturn, 1) := by decide +kernel
theorem dX8_setting_9 : decode cX8_setting 9 = .ok (.aload_n 0, 1) := by decide +kernel
theorem dX8_setting_10 : decode cX8_setting 10 = .ok (.getfield 10, 3) := by decide +kernel
theorem dX8_setting_13 : decode cX8_setting 13 = .ok (.getfield 75, 3) := by decide +kernel
theorem dX8_setting_16 : decode cX8_setting 16 = .ok (.iload_n 1, 1) := by decide +kernel
theorem dX8_setting_17 : decode cX8_setting 17 = .ok (.invokestatic 62, 3) := by decide +kernel
theorem dX8_setting_20 : decode cX8_setting 20 = .ok (.ireturn, 1) := by decide +kernel
theorem dX8_isFromTo_0 : decode cX8_isFromTo 0 = .ok (.iload_n 0, 1) := by decide +kernel
theorem dX8_isFromTo_1 : decode cX8_isFromTo 1 = .ok (.iload_n 1, 1) := by decide +kernel
theorem dX8_isFromTo_2 : decode cX8_isFromTo 2 = .ok (.if_icmp .lt 12, 3) := by decide +kernel
theorem dX8_isFromTo_5 : decode cX8_isFromTo 5 = .ok (.iload_n 0, 1) := by decide +kernel
theorem dX8_isFromTo_6 : decode cX8_isFromTo 6 = .ok (.iload_n 2, 1) := by decide +kernel
theorem dX8_isFromTo_7 : decode cX8_isFromTo 7 = .ok (.if_icmp .gt 7, 3) := by decide +kernel
theorem dX8_isFromTo_10 : decode cX8_isFromTo 10 = .ok (.iconst 1, 1) := by decide +kernel
theorem dX8_isFromTo_11 : decode cX8_isFromTo 11 = .ok (.goto 4, 3) := by decide +kernel
theorem dX8_isFromTo_14 : decode cX8_isFromTo 14 = .ok (.iconst 0, 1) := by decide +kernel
theorem dX8_isFromTo_15 : decode cX8_isFromTo 15 = .ok (.ireturn, 1) := by decide +kernel
theorem dX8_isSetting_0 : decode cX8_isSetting 0 = .ok (.iload_n 0, 1) := by decide +kernel
theorem dX8_isSetting_1 : decode cX8_isSetting 1 = .ok (.iconst 0, 1) := by decide +kernel
theorem dX8_isSetting_2 : decode cX8_isSetting 2 = .ok (.getstatic 301, 3) := by decide +kernel
theorem dX8_isSetting_5 : decode cX8_isSetting 5 = .ok (.arraylength, 1) := by decide +kernel
theorem dX8_isSetting_6 : decode cX8_isSetting 6 = .ok (.iconst 1, 1) := by decide +kernel
theorem dX8_isSetting_7 : decode cX8_isSetting 7 = .ok (.isub, 1) := by decide +kernel
theorem dX8_isSetting_8 : decode cX8_isSetting 8 = .ok (.invokestatic 71, 3) := by decide +kernel
theorem dX8_isSetting_11 : decode cX8_isSetting 11 = .ok (.ireturn, 1) := by decide +kernel
theorem dX8_isPlaceOfDay_0 : decode cX8_isPlaceOfDay 0 = .ok (.iload_n 0, 1) := by decide +kernel
theorem dX8_isPlaceOfDay_1 : decode cX8_isPlaceOfDay 1 = .ok (.iconst 0, 1) := by decide +kernel
theorem dX8_isPlaceOfDay_2 : decode cX8_isPlaceOfDay 2 = .ok (.bipush 47, 2) := by decide +kernel
theorem dX8_isPlaceOfDay_4 : decode cX8_isPlaceOfDay 4 = .ok (.invokestatic 71, 3) := by decide +kernel
theorem dX8_isPlaceOfDay_7 : decode cX8_isPlaceOfDay 7 = .ok (.ireturn, 1) := by decide +kernel
theorem dX8_isSocket_0 : decode cX8_isSocket 0 = .ok (.iload_n 0, 1) := by decide +kernel
theorem dX8_isSocket_1 : decode cX8_isSocket 1 = .ok (.iconst 0, 1) := by decide +kernel
theorem dX8_isSocket_2 : decode cX8_isSocket 2 = .ok (.iconst 5, 1) := by decide +kernel
theorem dX8_isSocket_3 : decode cX8_isSocket 3 = .ok (.invokestatic 71, 3) := by decide +kernel
theorem dX8_isSocket_6 : decode cX8_isSocket 6 = .ok (.ireturn, 1) := by decide +kernel
theorem dX8_isKind_0 : decode cX8_isKind 0 = .ok (.iload_n 0, 1) := by decide +kernel
theorem dX8_isKind_1 : decode cX8_isKind 1 = .ok (.iconst 0, 1) := by decide +kernel
theorem dX8_isKind_2 : decode cX8_isKind 2 = .ok (.iconst 2, 1) := by decide +kernel
theorem dX8_isKind_3 : decode cX8_isKind 3 = .ok (.invokestatic 71, 3) := by decide +kernel
theorem dX8_isKind_6 : decode cX8_isKind 6 = .ok (.ireturn, 1) := by decide +kernel
theorem dX8_isLoad_0 : decode cX8_isLoad 0 = .ok (.iload_n 0, 1) := by decide +kernel
theorem dX8_isLoad_1 : decode cX8_isLoad 1 = .ok (.iconst 1, 1) := by decide +kernel
theorem dX8_isLoad_2 : decode cX8_isLoad 2 = .ok (.bipush 6, 2) := by decide +kernel
theorem dX8_isLoad_4 : decode cX8_isLoad 4 = .ok (.invokestatic 71, 3) := by decide +kernel
theorem dX8_isLoad_7 : decode cX8_isLoad 7 = .ok (.ireturn, 1) := by decide +kernel
theorem dX8_oneIf_0 : decode cX8_oneIf 0 = .ok (.iload_n 0, 1) := by decide +kernel
theorem dX8_oneIf_1 : decode cX8_oneIf 1 = .ok (.ifCond .eq 7, 3) := by decide +kernel
theorem dX8_oneIf_4 : decode cX8_oneIf 4 = .ok (.iconst 1, 1) := by decide +kernel
theorem dX8_oneIf_5 : decode cX8_oneIf 5 = .ok (.goto 4, 3) := by decide +kernel
theorem dX8_oneIf_8 : decode cX8_oneIf 8 = .ok (.iconst 0, 1) := by decide +kernel
theorem dX8_oneIf_9 : decode cX8_oneIf 9 = .ok (.ireturn, 1) := by decide +kernel
theorem dX9_init_0 : decode cX9_init 0 = .ok (.aload_n 0, 1) := by decide +kernel
theorem dX9_init_1 : decode cX9_init 1 = .ok (.invokespecial 1, 3) := by decide +kernel
theorem dX9_init_4 : decode cX9_init 4 = .ok (.aload_n 0, 1) := by decide +kernel
theorem dX9_init_5 : decode cX9_init 5 = .ok (.bipush 111, 2) := by decide +kernel
theorem dX9_init_7 : decode cX9_init 7 = .ok (.newarray .int, 2) := by decide +kernel
theorem dX9_init_9 : decode cX9_init 9 = .ok (.putfield 7, 3) := by decide +kernel
theorem dX9_init_12 : decode cX9_init 12 = .ok (.aload_n 0, 1) := by decide +kernel
theorem dX9_init_13 : decode cX9_init 13 = .ok (.bipush 111, 2) := by decide +kernel
theorem dX9_init_15 : decode cX9_init 15 = .ok (.newarray .int, 2) := by decide +kernel
theorem dX9_init_17 : decode cX9_init 17 = .ok (.putfield 13, 3) := by decide +kernel
theorem dX9_init_20 : decode cX9_init 20 = .ok (.aload_n 0, 1) := by decide +kernel
theorem dX9_init_21 : decode cX9_init 21 = .ok (.sipush 444, 3) := by decide +kernel
theorem dX9_init_24 : decode cX9_init 24 = .ok (.newarray .int, 2) := by decide +kernel
theorem dX9_init_26 : decode cX9_init 26 = .ok (.putfield 16, 3) := by decide +kernel
theorem dX9_init_29 : decode cX9_init 29 = .ok (.aload_n 0, 1) := by decide +kernel
theorem dX9_init_30 : decode cX9_init 30 = .ok (.bipush 111, 2) := by decide +kernel
theorem dX9_init_32 : decode cX9_init 32 = .ok (.newarray .int, 2) := by decide +kernel
theorem dX9_init_34 : decode cX9_init 34 = .ok (.putfield 19, 3) := by decide +kernel
theorem dX9_init_37 : decode cX9_init 37 = .ok (.aload_n 0, 1) := by decide +kernel
theorem dX9_init_38 : decode cX9_init 38 = .ok (.bipush 60, 2) := by decide +kernel
theorem dX9_init_40 : decode cX9_init 40 = .ok (.newarray .char, 2) := by decide +kernel
theorem dX9_init_42 : decode cX9_init 42 = .ok (.putfield 22, 3) := by decide +kernel
theorem dX9_init_45 : decode cX9_init 45 = .ok (.aload_n 0, 1) := by decide +kernel
theorem dX9_init_46 : decode cX9_init 46 = .ok (.bipush 48, 2) := by decide +kernel
theorem dX9_init_48 : decode cX9_init 48 = .ok (.newarray .int, 2) := by decide +kernel
theorem dX9_init_50 : decode cX9_init 50 = .ok (.putfield 26, 3) := by decide +kernel
theorem dX9_init_53 : decode cX9_init 53 = .ok (.aload_n 0, 1) := by decide +kernel
theorem dX9_init_54 : decode cX9_init 54 = .ok (.getfield 7, 3) := by decide +kernel
theorem dX9_init_57 : decode cX9_init 57 = .ok (.iconst 1, 1) := by decide +kernel
theorem dX9_init_58 : decode cX9_init 58 = .ok (.bipush 36, 2) := by decide +kernel
theorem dX9_init_60 : decode cX9_init 60 = .ok (.iastore, 1) := by decide +kernel
theorem dX9_init_61 : decode cX9_init 61 = .ok (.aload_n 0, 1) := by decide +kernel
theorem dX9_init_62 : decode cX9_init 62 = .ok (.getfield 7, 3) := by decide +kernel
theorem dX9_init_65 : decode cX9_init 65 = .ok (.iconst 2, 1) := by decide +kernel
theorem dX9_init_66 : decode cX9_init 66 = .ok (.bipush 12, 2) := by decide +kernel
theorem dX9_init_68 : decode cX9_init 68 = .ok (.iastore, 1) := by decide +kernel
theorem dX9_init_69 : decode cX9_init 69 = .ok (.aload_n 0, 1) := by decide +kernel
theorem dX9_init_70 : decode cX9_init 70 = .ok (.getfield 7, 3) := by decide +kernel
theorem dX9_init_73 : decode cX9_init 73 = .ok (.iconst 3, 1) := by decide +kernel
theorem dX9_init_74 : decode cX9_init 74 = .ok (.bipush 80, 2) := by decide +kernel
theorem dX9_init_76 : decode cX9_init 76 = .ok (.iastore, 1) := by decide +kernel
theorem dX9_init_77 : decode cX9_init 77 = .ok (.aload_n 0, 1) := by decide +kernel
theorem dX9_init_78 : decode cX9_init 78 = .ok (.getfield 7, 3) := by decide +kernel
theorem dX9_init_81 : decode cX9_init 81 = .ok (.iconst 4, 1) := by decide +kernel
theorem dX9_init_82 : decode cX9_init 82 = .ok (.iconst 2, 1) := by decide +kernel
theorem dX9_init_83 : decode cX9_init 83 = .ok (.iastore, 1) := by decide +kernel
theorem dX9_init_84 : decode cX9_init 84 = .ok (.aload_n 0, 1) := by decide +kernel
theorem dX9_init_85 : decode cX9_init 85 = .ok (.getfield 7, 3) := by decide +kernel
theorem dX9_init_88 : decode cX9_init 88 = .ok (.iconst 5, 1) := by decide +kernel
theorem dX9_init_89 : decode cX9_init 89 = .ok (.iconst 2, 1) := by decide +kernel
theorem dX9_init_90 : decode cX9_init 90 = .ok (.iastore, 1) := by decide +kernel
theorem dX9_init_91 : decode cX9_init 91 = .ok (.aload_n 0, 1) := by decide +kernel
theorem dX9_init_92 : decode cX9_init 92 = .ok (.getfield 7, 3) := by decide +kernel
theorem dX9_init_95 : decode cX9_init 95 = .ok (.bipush 8, 2) := by decide +kernel
theorem dX9_init_97 : decode cX9_init 97 = .ok (.bipush (-5), 2) := by decide +kernel
theorem dX9_init_99 : decode cX9_init 99 = .ok (.iastore, 1) := by decide +kernel
theorem dX9_init_100 : decode cX9_init 100 = .ok (.iconst 0, 1) := by decide +kernel
theorem dX9_init_101 : decode cX9_init 101 = .ok (.istore_n 1, 1) := by decide +kernel
theorem dX9_init_102 : decode cX9_init 102 = .ok (.iload_n 1, 1) := by decide +kernel
theorem dX9_init_103 : decode cX9_init 103 = .ok (.bipush 6, 2) := by decide +kernel
theorem dX9_init_105 : decode cX9_init 105 = .ok (.if_icmp .ge 17, 3) := by decide +kernel
theorem dX9_init_108 : decode cX9_init 108 = .ok (.aload_n 0, 1) := by decide +kernel
theorem dX9_init_109 : decode cX9_init 109 = .ok (.getfield 7, 3) := by decide +kernel
theorem dX9_init_112 : decode cX9_init 112 = .ok (.iload_n 1, 1) := by decide +kernel
theorem dX9_init_113 : decode cX9_init 113 = .ok (.invokestatic 29, 3) := by decide +kernel
theorem dX9_init_116 : decode cX9_init 116 = .ok (.iinc 1 1, 3) := by decide +kernel
theorem dX9_init_119 : decode cX9_init 119 = .ok (.goto (-17), 3) := by decide +kernel
theorem dX9_init_122 : decode cX9_init 122 = .ok (.return_, 1) := by decide +kernel
theorem dX9_in_0 : decode cX9_in 0 = .ok (.iload_n 0, 1) := by decide +kernel
theorem dX9_in_1 : decode cX9_in 1 = .ok (.iload_n 1, 1) := by decide +kernel
theorem dX9_in_2 : decode cX9_in 2 = .ok (.if_icmp .lt 12, 3) := by decide +kernel
theorem dX9_in_5 : decode cX9_in 5 = .ok (.iload_n 0, 1) := by decide +kernel
theorem dX9_in_6 : decode cX9_in 6 = .ok (.iload_n 2, 1) := by decide +kernel
theorem dX9_in_7 : decode cX9_in 7 = .ok (.if_icmp .gt 7, 3) := by decide +kernel
theorem dX9_in_10 : decode cX9_in 10 = .ok (.iconst 1, 1) := by decide +kernel
theorem dX9_in_11 : decode cX9_in 11 = .ok (.goto 4, 3) := by decide +kernel
theorem dX9_in_14 : decode cX9_in 14 = .ok (.iconst 0, 1) := by decide +kernel
theorem dX9_in_15 : decode cX9_in 15 = .ok (.ireturn, 1) := by decide +kernel
theorem dX9_isSocket_0 : decode cX9_isSocket 0 = .ok (.iload_n 0, 1) := by decide +kernel
theorem dX9_isSocket_1 : decode cX9_isSocket 1 = .ok (.iconst 0, 1) := by decide +kernel
theorem dX9_isSocket_2 : decode cX9_isSocket 2 = .ok (.iconst 5, 1) := by decide +kernel
theorem dX9_isSocket_3 : decode cX9_isSocket 3 = .ok (.invokestatic 33, 3) := by decide +kernel
theorem dX9_isSocket_6 : decode cX9_isSocket 6 = .ok (.ireturn, 1) := by decide +kernel
theorem dX9_lays_0 : decode cX9_lays 0 = .ok (.iconst 0, 1) := by decide +kernel
theorem dX9_lays_1 : decode cX9_lays 1 = .ok (.istore 4, 2) := by decide +kernel
theorem dX9_lays_3 : decode cX9_lays 3 = .ok (.iload 4, 2) := by decide +kernel
theorem dX9_lays_5 : decode cX9_lays 5 = .ok (.bipush 111, 2) := by decide +kernel
theorem dX9_lays_7 : decode cX9_lays 7 = .ok (.if_icmp .ge 21, 3) := by decide +kernel
theorem dX9_lays_10 : decode cX9_lays 10 = .ok (.aload_n 2, 1) := by decide +kernel
theorem dX9_lays_11 : decode cX9_lays 11 = .ok (.iload_n 3, 1) := by decide +kernel
theorem dX9_lays_12 : decode cX9_lays 12 = .ok (.iload 4, 2) := by decide +kernel
theorem dX9_lays_14 : decode cX9_lays 14 = .ok (.iadd, 1) := by decide +kernel
theorem dX9_lays_15 : decode cX9_lays 15 = .ok (.aload_n 0, 1) := by decide +kernel
theorem dX9_lays_16 : decode cX9_lays 16 = .ok (.iload_n 1, 1) := by decide +kernel
theorem dX9_lays_17 : decode cX9_lays 17 = .ok (.iload 4, 2) := by decide +kernel
theorem dX9_lays_19 : decode cX9_lays 19 = .ok (.iadd, 1) := by decide +kernel
theorem dX9_lays_20 : decode cX9_lays 20 = .ok (.iaload, 1) := by decide +kernel
theorem dX9_lays_21 : decode cX9_lays 21 = .ok (.iastore, 1) := by decide +kernel
theorem dX9_lays_22 : decode cX9_lays 22 = .ok (.iinc 4 1, 3) := by decide +kernel
theorem dX9_lays_25 : decode cX9_lays 25 = .ok (.goto (-22), 3) := by decide +kernel
theorem dX9_lays_28 : decode cX9_lays 28 = .ok (.return_, 1) := by decide +kernel
theorem dX9_records_0 : decode cX9_records 0 = .ok (.aload_n 0, 1) := by decide +kernel
theorem dX9_records_1 : decode cX9_records 1 = .ok (.getfield 37, 3) := by decide +kernel
theorem dX9_records_4 : decode cX9_records 4 = .ok (.iconst 4, 1) := by decide +kernel
theorem dX9_records_5 : decode cX9_records 5 = .ok (.if_icmp .ne 43, 3) := by decide +kernel
theorem dX9_records_8 : decode cX9_records 8 = .ok (.iconst 0, 1) := by decide +kernel
theorem dX9_records_9 : decode cX9_records 9 = .ok (.istore_n 1, 1) := by decide +kernel
theorem dX9_records_10 : decode cX9_records 10 = .ok (.iload_n 1, 1) := by decide +kernel
theorem dX9_records_11 : decode cX9_records 11 = .ok (.sipush 333, 3) := by decide +kernel
theorem dX9_records_14 : decode cX9_records 14 = .ok (.if_icmp .ge 24, 3) := by decide +kernel
theorem dX9_records_17 : decode cX9_records 17 = .ok (.aload_n 0, 1) := by decide +kernel
theorem dX9_records_18 : decode cX9_records 18 = .ok (.getfield 16, 3) := by decide +kernel
theorem dX9_records_21 : decode cX9_records 21 = .ok (.iload_n 1, 1) := by decide +kernel
theorem dX9_records_22 : decode cX9_records 22 = .ok (.aload_n 0, 1) := by decide +kernel
theorem dX9_records_23 : decode cX9_records 23 = .ok (.getfield 16, 3) := by decide +kernel
theorem dX9_records_26 : decode cX9_records 26 = .ok (.iload_n 1, 1) := by decide +kernel
theorem dX9_records_27 : decode cX9_records 27 = .ok (.bipush 111, 2) := by decide +kernel
theorem dX9_records_29 : decode cX9_records 29 = .ok (.iadd, 1) := by decide +kernel
theorem dX9_records_30 : decode cX9_records 30 = .ok (.iaload, 1) := by decide +kernel
theorem dX9_records_31 : decode cX9_records 31 = .ok (.iastore, 1) := by decide +kernel
theorem dX9_records_32 : decode cX9_records 32 = .ok (.iinc 1 1, 3) := by decide +kernel
theorem dX9_records_35 : decode cX9_records 35 = .ok (.goto (-25), 3) := by decide +kernel
theorem dX9_records_38 : decode cX9_records 38 = .ok (.aload_n 0, 1) := by decide +kernel
theorem dX9_records_39 : decode cX9_records 39 = .ok (.dup, 1) := by decide +kernel
theorem dX9_records_40 : decode cX9_records 40 = .ok (.getfield 37, 3) := by decide +kernel
theorem dX9_records_43 : decode cX9_records 43 = .ok (.iconst 1, 1) := by decide +kernel
theorem dX9_records_44 : decode cX9_records 44 = .ok (.isub, 1) := by decide +kernel
theorem dX9_records_45 : decode cX9_records 45 = .ok (.putfield 37, 3) := by decide +kernel
theorem dX9_records_48 : decode cX9_records 48 = .ok (.aload_n 0, 1) := by decide +kernel
theorem dX9_records_49 : decode cX9_records 49 = .ok (.getfield 7, 3) := by decide +kernel
theorem dX9_records_52 : decode cX9_records 52 = .ok (.iconst 0, 1) := by decide +kernel
theorem dX9_records_53 : decode cX9_records 53 = .ok (.aload_n 0, 1) := by decide +kernel
theorem dX9_records_54 : decode cX9_records 54 = .ok (.getfield 16, 3) := by decide +kernel
theorem dX9_records_57 : decode cX9_records 57 = .ok (.bipush 111, 2) := by decide +kernel
theorem dX9_records_59 : decode cX9_records 59 = .ok (.aload_n 0, 1) := by decide +kernel
theorem dX9_records_60 : decode cX9_records 60 = .ok (.getfield 37, 3) := by decide +kernel
theorem dX9_records_63 : decode cX9_records 63 = .ok (.imul, 1) := by decide +kernel
theorem dX9_records_64 : decode cX9_records 64 = .ok (.invokestatic 41, 3) := by decide +kernel
theorem dX9_records_67 : decode cX9_records 67 = .ok (.aload_n 0, 1) := by decide +kernel
theorem dX9_records_68 : decode cX9_records 68 = .ok (.dup, 1) := by decide +kernel
theorem dX9_records_69 : decode cX9_records 69 = .ok (.getfield 37, 3) := by decide +kernel
theorem dX9_records_72 : decode cX9_records 72 = .ok (.iconst 1, 1) := by decide +kernel
theorem dX9_records_73 : decode cX9_records 73 = .ok (.iadd, 1) := by decide +kernel
theorem dX9_records_74 : decode cX9_records 74 = .ok (.putfield 37, 3) := by decide +kernel
theorem dX9_records_77 : decode cX9_records 77 = .ok (.return_, 1) := by decide +kernel
theorem dX9_undo_0 : decode cX9_undo 0 = .ok (.aload_n 0, 1) := by decide +kernel
theorem dX9_undo_1 : decode cX9_undo 1 = .ok (.getfield 37, 3) := by decide +kernel
theorem dX9_undo_4 : decode cX9_undo 4 = .ok (.ifCond .ne 6, 3) := by decide +kernel
theorem dX9_undo_7 : decode cX9_undo 7 = .ok (.bipush (-5), 2) := by decide +kernel
theorem dX9_undo_9 : decode cX9_undo 9 = .ok (.ireturn, 1) := by decide +kernel
theorem dX9_undo_10 : decode cX9_undo 10 = .ok (.aload_n 0, 1) := by decide +kernel
theorem dX9_undo_11 : decode cX9_undo 11 = .ok (.dup, 1) := by decide +kernel
theorem dX9_undo_12 : decode cX9_undo 12 = .ok (.getfield 37, 3) := by decide +kernel
theorem dX9_undo_15 : decode cX9_undo 15 = .ok (.iconst 1, 1) := by decide +kernel
theorem dX9_undo_16 : decode cX9_undo 16 = .ok (.isub, 1) := by decide +kernel
theorem dX9_undo_17 : decode cX9_undo 17 = .ok (.putfield 37, 3) := by decide +kernel
theorem dX9_undo_20 : decode cX9_undo 20 = .ok (.aload_n 0, 1) := by decide +kernel
theorem dX9_undo_21 : decode cX9_undo 21 = .ok (.getfield 16, 3) := by decide +kernel
theorem dX9_undo_24 : decode cX9_undo 24 = .ok (.bipush 111, 2) := by decide +kernel
theorem dX9_undo_26 : decode cX9_undo 26 = .ok (.aload_n 0, 1) := by decide +kernel
theorem dX9_undo_27 : decode cX9_undo 27 = .ok (.getfield 37, 3) := by decide +kernel
theorem dX9_undo_30 : decode cX9_undo 30 = .ok (.imul, 1) := by decide +kernel
theorem dX9_undo_31 : decode cX9_undo 31 = .ok (.aload_n 0, 1) := by decide +kernel
theorem dX9_undo_32 : decode cX9_undo 32 = .ok (.getfield 7, 3) := by decide +kernel
theorem dX9_undo_35 : decode cX9_undo 35 = .ok (.iconst 0, 1) := by decide +kernel
theorem dX9_undo_36 : decode cX9_undo 36 = .ok (.invokestatic 41, 3) := by decide +kernel
theorem dX9_undo_39 : decode cX9_undo 39 = .ok (.aload_n 0, 1) := by decide +kernel
theorem dX9_undo_40 : decode cX9_undo 40 = .ok (.getfield 37, 3) := by decide +kernel
theorem dX9_undo_43 : decode cX9_undo 43 = .ok (.ireturn, 1) := by decide +kernel
theorem dX9_keep_0 : decode cX9_keep 0 = .ok (.aload_n 0, 1) := by decide +kernel
theorem dX9_keep_1 : decode cX9_keep 1 = .ok (.getfield 7, 3) := by decide +kernel
theorem dX9_keep_4 : decode cX9_keep 4 = .ok (.iconst 0, 1) := by decide +kernel
theorem dX9_keep_5 : decode cX9_keep 5 = .ok (.aload_n 0, 1) := by decide +kernel
theorem dX9_keep_6 : decode cX9_keep 6 = .ok (.getfield 19, 3) := by decide +kernel
theorem dX9_keep_9 : decode cX9_keep 9 = .ok (.iconst 0, 1) := by decide +kernel
theorem dX9_keep_10 : decode cX9_keep 10 = .ok (.invokestatic 41, 3) := by decide +kernel
theorem dX9_keep_13 : decode cX9_keep 13 = .ok (.aload_n 0, 1) := by decide +kernel
theorem dX9_keep_14 : decode cX9_keep 14 = .ok (.iconst 1, 1) := by decide +kernel
theorem dX9_keep_15 : decode cX9_keep 15 = .ok (.putfield 45, 3) := by decide +kernel
theorem dX9_keep_18 : decode cX9_keep 18 = .ok (.aload_n 0, 1) := by decide +kernel
theorem dX9_keep_19 : decode cX9_keep 19 = .ok (.getfield 7, 3) := by decide +kernel
theorem dX9_keep_22 : decode cX9_keep 22 = .ok (.iconst 0, 1) := by decide +kernel
theorem dX9_keep_23 : decode cX9_keep 23 = .ok (.iaload, 1) := by decide +kernel
theorem dX9_keep_24 : decode cX9_keep 24 = .ok (.ireturn, 1) := by decide +kernel
theorem dX9_restore_0 : decode cX9_restore 0 = .ok (.aload_n 0, 1) := by decide +kernel
theorem dX9_restore_1 : decode cX9_restore 1 = .ok (.getfield 45, 3) := by decide +kernel
theorem dX9_restore_4 : decode cX9_restore 4 = .ok (.ifCond .ne 6, 3) := by decide +kernel
theorem dX9_restore_7 : decode cX9_restore 7 = .ok (.bipush (-5), 2) := by decide +kernel
theorem dX9_restore_9 : decode cX9_restore 9 = .ok (.ireturn, 1) := by decide +kernel
theorem dX9_restore_10 : decode cX9_restore 10 = .ok (.aload_n 0, 1) := by decide +kernel
theorem dX9_restore_11 : decode cX9_restore 11 = .ok (.invokevirtual 49, 3) := by decide +kernel
theorem dX9_restore_14 : decode cX9_restore 14 = .ok (.aload_n 0, 1) := by decide +kernel
theorem dX9_restore_15 : decode cX9_restore 15 = .ok (.getfield 19, 3) := by decide +kernel
theorem dX9_restore_18 : decode cX9_restore 18 = .ok (.iconst 0, 1) := by decide +kernel
theorem dX9_restore_19 : decode cX9_restore 19 = .ok (.aload_n 0, 1) := by decide +kernel
theorem dX9_restore_20 : decode cX9_restore 20 = .ok (.getfield 7, 3) := by decide +kernel
theorem dX9_restore_23 : decode cX9_restore 23 = .ok (.iconst 0, 1) := by decide +kernel
theorem dX9_restore_24 : decode cX9_restore 24 = .ok (.invokestatic 41, 3) := by decide +kernel
theorem dX9_restore_27 : decode cX9_restore 27 = .ok (.aload_n 0, 1) := by decide +kernel
theorem dX9_restore_28 : decode cX9_restore 28 = .ok (.getfield 7, 3) := by decide +kernel
theorem dX9_restore_31 : decode cX9_restore 31 = .ok (.iconst 0, 1) := by decide +kernel
theorem dX9_restore_32 : decode cX9_restore 32 = .ok (.iaload, 1) := by decide +kernel
theorem dX9_restore_33 : decode cX9_restore 33 = .ok (.ireturn, 1) := by decide +kernel
theorem dX9_of_0 : decode cX9_of 0 = .ok (.aload_n 0, 1) := by decide +kernel
theorem dX9_of_1 : decode cX9_of 1 = .ok (.bipush 11, 2) := by decide +kernel
end
section
theorem dX9_of_3 : decode cX9_of 3 = .ok (.iconst 5, 1) := by decide +kernel
theorem dX9_of_4 : decode cX9_of 4 = .ok (.iload_n 1, 1) := by decide +kernel
theorem dX9_of_5 : decode cX9_of 5 = .ok (.imul, 1) := by decide +kernel
theorem dX9_of_6 : decode cX9_of 6 = .ok (.iadd, 1) := by decide +kernel
theorem dX9_of_7 : decode cX9_of 7 = .ok (.iload_n 2, 1) := by decide +kernel
theorem dX9_of_8 : decode cX9_of 8 = .ok (.iadd, 1) := by decide +kernel
theorem dX9_of_9 : decode cX9_of 9 = .ok (.iaload, 1) := by decide +kernel
theorem dX9_of_10 : decode cX9_of 10 = .ok (.ireturn, 1) := by decide +kernel
theorem dX9_puts_0 : decode cX9_puts 0 = .ok (.aload_n 0, 1) := by decide +kernel
theorem dX9_puts_1 : decode cX9_puts 1 = .ok (.bipush 11, 2) := by decide +kernel
theorem dX9_puts_3 : decode cX9_puts 3 = .ok (.iconst 5, 1) := by decide +kernel
theorem dX9_puts_4 : decode cX9_puts 4 = .ok (.iload_n 1, 1) := by decide +kernel
theorem dX9_puts_5 : decode cX9_puts 5 = .ok (.imul, 1) := by decide +kernel
theorem dX9_puts_6 : decode cX9_puts 6 = .ok (.iadd, 1) := by decide +kernel
theorem dX9_puts_7 : decode cX9_puts 7 = .ok (.iload_n 2, 1) := by decide +kernel
theorem dX9_puts_8 : decode cX9_puts 8 = .ok (.iadd, 1) := by decide +kernel
theorem dX9_puts_9 : decode cX9_puts 9 = .ok (.iload_n 3, 1) := by decide +kernel
theorem dX9_puts_10 : decode cX9_puts 10 = .ok (.iastore, 1) := by decide +kernel
theorem dX9_puts_11 : decode cX9_puts 11 = .ok (.return_, 1) := by decide +kernel
theorem dX9_empties_0 : decode cX9_empties 0 = .ok (.aload_n 0, 1) := by decide +kernel
theorem dX9_empties_1 : decode cX9_empties 1 = .ok (.iload_n 1, 1) := by decide +kernel
theorem dX9_empties_2 : decode cX9_empties 2 = .ok (.iconst 0, 1) := by decide +kernel
theorem dX9_empties_3 : decode cX9_empties 3 = .ok (.bipush (-5), 2) := by decide +kernel
theorem dX9_empties_5 : decode cX9_empties 5 = .ok (.invokestatic 52, 3) := by decide +kernel
theorem dX9_empties_8 : decode cX9_empties 8 = .ok (.return_, 1) := by decide +kernel
theorem dX9_isThere_0 : decode cX9_isThere 0 = .ok (.aload_n 0, 1) := by decide +kernel
theorem dX9_isThere_1 : decode cX9_isThere 1 = .ok (.iload_n 1, 1) := by decide +kernel
theorem dX9_isThere_2 : decode cX9_isThere 2 = .ok (.iconst 0, 1) := by decide +kernel
theorem dX9_isThere_3 : decode cX9_isThere 3 = .ok (.invokestatic 56, 3) := by decide +kernel
theorem dX9_isThere_6 : decode cX9_isThere 6 = .ok (.bipush (-5), 2) := by decide +kernel
theorem dX9_isThere_8 : decode cX9_isThere 8 = .ok (.if_icmp .eq 7, 3) := by decide +kernel
theorem dX9_isThere_11 : decode cX9_isThere 11 = .ok (.iconst 1, 1) := by decide +kernel
theorem dX9_isThere_12 : decode cX9_isThere 12 = .ok (.goto 4, 3) := by decide +kernel
theorem dX9_isThere_15 : decode cX9_isThere 15 = .ok (.iconst 0, 1) := by decide +kernel
theorem dX9_isThere_16 : decode cX9_isThere 16 = .ok (.ireturn, 1) := by decide +kernel
theorem dX9_comes_0 : decode cX9_comes 0 = .ok (.aload_n 0, 1) := by decide +kernel
theorem dX9_comes_1 : decode cX9_comes 1 = .ok (.iload_n 1, 1) := by decide +kernel
theorem dX9_comes_2 : decode cX9_comes 2 = .ok (.iconst 0, 1) := by decide +kernel
theorem dX9_comes_3 : decode cX9_comes 3 = .ok (.iload_n 2, 1) := by decide +kernel
theorem dX9_comes_4 : decode cX9_comes 4 = .ok (.invokestatic 52, 3) := by decide +kernel
theorem dX9_comes_7 : decode cX9_comes 7 = .ok (.aload_n 0, 1) := by decide +kernel
theorem dX9_comes_8 : decode cX9_comes 8 = .ok (.iload_n 1, 1) := by decide +kernel
theorem dX9_comes_9 : decode cX9_comes 9 = .ok (.iconst 1, 1) := by decide +kernel
theorem dX9_comes_10 : decode cX9_comes 10 = .ok (.iload_n 3, 1) := by decide +kernel
theorem dX9_comes_11 : decode cX9_comes 11 = .ok (.invokestatic 52, 3) := by decide +kernel
theorem dX9_comes_14 : decode cX9_comes 14 = .ok (.aload_n 0, 1) := by decide +kernel
theorem dX9_comes_15 : decode cX9_comes 15 = .ok (.iload_n 1, 1) := by decide +kernel
theorem dX9_comes_16 : decode cX9_comes 16 = .ok (.iconst 2, 1) := by decide +kernel
theorem dX9_comes_17 : decode cX9_comes 17 = .ok (.iconst 0, 1) := by decide +kernel
theorem dX9_comes_18 : decode cX9_comes 18 = .ok (.invokestatic 52, 3) := by decide +kernel
theorem dX9_comes_21 : decode cX9_comes 21 = .ok (.aload_n 0, 1) := by decide +kernel
theorem dX9_comes_22 : decode cX9_comes 22 = .ok (.iload_n 1, 1) := by decide +kernel
theorem dX9_comes_23 : decode cX9_comes 23 = .ok (.iconst 3, 1) := by decide +kernel
theorem dX9_comes_24 : decode cX9_comes 24 = .ok (.iconst 0, 1) := by decide +kernel
theorem dX9_comes_25 : decode cX9_comes 25 = .ok (.invokestatic 52, 3) := by decide +kernel
theorem dX9_comes_28 : decode cX9_comes 28 = .ok (.aload_n 0, 1) := by decide +kernel
theorem dX9_comes_29 : decode cX9_comes 29 = .ok (.iload_n 1, 1) := by decide +kernel
theorem dX9_comes_30 : decode cX9_comes 30 = .ok (.iconst 4, 1) := by decide +kernel
theorem dX9_comes_31 : decode cX9_comes 31 = .ok (.iconst 0, 1) := by decide +kernel
theorem dX9_comes_32 : decode cX9_comes 32 = .ok (.invokestatic 52, 3) := by decide +kernel
theorem dX9_comes_35 : decode cX9_comes 35 = .ok (.return_, 1) := by decide +kernel
theorem dX9_by_0 : decode cX9_by 0 = .ok (.iload_n 0, 1) := by decide +kernel
theorem dX9_by_1 : decode cX9_by 1 = .ok (.ifCond .ne 7, 3) := by decide +kernel
theorem dX9_by_4 : decode cX9_by 4 = .ok (.iload_n 1, 1) := by decide +kernel
theorem dX9_by_5 : decode cX9_by 5 = .ok (.goto 13, 3) := by decide +kernel
theorem dX9_by_8 : decode cX9_by 8 = .ok (.iload_n 0, 1) := by decide +kernel
theorem dX9_by_9 : decode cX9_by 9 = .ok (.iconst 1, 1) := by decide +kernel
theorem dX9_by_10 : decode cX9_by 10 = .ok (.if_icmp .ne 7, 3) := by decide +kernel
theorem dX9_by_13 : decode cX9_by 13 = .ok (.iload_n 2, 1) := by decide +kernel
theorem dX9_by_14 : decode cX9_by 14 = .ok (.goto 4, 3) := by decide +kernel
theorem dX9_by_17 : decode cX9_by 17 = .ok (.iload_n 3, 1) := by decide +kernel
theorem dX9_by_18 : decode cX9_by 18 = .ok (.ireturn, 1) := by decide +kernel
theorem dX9_life_0 : decode cX9_life 0 = .ok (.aload_n 0, 1) := by decide +kernel
theorem dX9_life_1 : decode cX9_life 1 = .ok (.iload_n 1, 1) := by decide +kernel
theorem dX9_life_2 : decode cX9_life 2 = .ok (.iconst 0, 1) := by decide +kernel
theorem dX9_life_3 : decode cX9_life 3 = .ok (.invokestatic 56, 3) := by decide +kernel
theorem dX9_life_6 : decode cX9_life 6 = .ok (.sipush 400, 3) := by decide +kernel
theorem dX9_life_9 : decode cX9_life 9 = .ok (.sipush 700, 3) := by decide +kernel
theorem dX9_life_12 : decode cX9_life 12 = .ok (.sipush 200, 3) := by decide +kernel
theorem dX9_life_15 : decode cX9_life 15 = .ok (.invokestatic 60, 3) := by decide +kernel
theorem dX9_life_18 : decode cX9_life 18 = .ok (.aload_n 0, 1) := by decide +kernel
theorem dX9_life_19 : decode cX9_life 19 = .ok (.iload_n 1, 1) := by decide +kernel
theorem dX9_life_20 : decode cX9_life 20 = .ok (.iconst 1, 1) := by decide +kernel
theorem dX9_life_21 : decode cX9_life 21 = .ok (.invokestatic 56, 3) := by decide +kernel
theorem dX9_life_24 : decode cX9_life 24 = .ok (.imul, 1) := by decide +kernel
theorem dX9_life_25 : decode cX9_life 25 = .ok (.bipush 100, 2) := by decide +kernel
theorem dX9_life_27 : decode cX9_life 27 = .ok (.idiv, 1) := by decide +kernel
theorem dX9_life_28 : decode cX9_life 28 = .ok (.ireturn, 1) := by decide +kernel
theorem dX9_nominal_0 : decode cX9_nominal 0 = .ok (.aload_n 0, 1) := by decide +kernel
theorem dX9_nominal_1 : decode cX9_nominal 1 = .ok (.iload_n 1, 1) := by decide +kernel
theorem dX9_nominal_2 : decode cX9_nominal 2 = .ok (.iconst 0, 1) := by decide +kernel
theorem dX9_nominal_3 : decode cX9_nominal 3 = .ok (.invokestatic 56, 3) := by decide +kernel
theorem dX9_nominal_6 : decode cX9_nominal 6 = .ok (.sipush 1000, 3) := by decide +kernel
theorem dX9_nominal_9 : decode cX9_nominal 9 = .ok (.sipush 1400, 3) := by decide +kernel
theorem dX9_nominal_12 : decode cX9_nominal 12 = .ok (.sipush 700, 3) := by decide +kernel
theorem dX9_nominal_15 : decode cX9_nominal 15 = .ok (.invokestatic 60, 3) := by decide +kernel
theorem dX9_nominal_18 : decode cX9_nominal 18 = .ok (.ireturn, 1) := by decide +kernel
theorem dX9_isOut_0 : decode cX9_isOut 0 = .ok (.aload_n 0, 1) := by decide +kernel
theorem dX9_isOut_1 : decode cX9_isOut 1 = .ok (.iload_n 1, 1) := by decide +kernel
theorem dX9_isOut_2 : decode cX9_isOut 2 = .ok (.iconst 2, 1) := by decide +kernel
theorem dX9_isOut_3 : decode cX9_isOut 3 = .ok (.invokestatic 56, 3) := by decide +kernel
theorem dX9_isOut_6 : decode cX9_isOut 6 = .ok (.aload_n 0, 1) := by decide +kernel
theorem dX9_isOut_7 : decode cX9_isOut 7 = .ok (.iload_n 1, 1) := by decide +kernel
theorem dX9_isOut_8 : decode cX9_isOut 8 = .ok (.invokestatic 64, 3) := by decide +kernel
theorem dX9_isOut_11 : decode cX9_isOut 11 = .ok (.if_icmp .lt 7, 3) := by decide +kernel
theorem dX9_isOut_14 : decode cX9_isOut 14 = .ok (.iconst 1, 1) := by decide +kernel
theorem dX9_isOut_15 : decode cX9_isOut 15 = .ok (.goto 4, 3) := by decide +kernel
theorem dX9_isOut_18 : decode cX9_isOut 18 = .ok (.iconst 0, 1) := by decide +kernel
theorem dX9_isOut_19 : decode cX9_isOut 19 = .ok (.ireturn, 1) := by decide +kernel
theorem dX9_current_0 : decode cX9_current 0 = .ok (.aload_n 0, 1) := by decide +kernel
theorem dX9_current_1 : decode cX9_current 1 = .ok (.iload_n 1, 1) := by decide +kernel
theorem dX9_current_2 : decode cX9_current 2 = .ok (.invokestatic 68, 3) := by decide +kernel
theorem dX9_current_5 : decode cX9_current 5 = .ok (.istore_n 2, 1) := by decide +kernel
theorem dX9_current_6 : decode cX9_current 6 = .ok (.aload_n 0, 1) := by decide +kernel
theorem dX9_current_7 : decode cX9_current 7 = .ok (.iload_n 1, 1) := by decide +kernel
theorem dX9_current_8 : decode cX9_current 8 = .ok (.invokestatic 71, 3) := by decide +kernel
theorem dX9_current_11 : decode cX9_current 11 = .ok (.ifCond .eq 7, 3) := by decide +kernel
theorem dX9_current_14 : decode cX9_current 14 = .ok (.iconst 0, 1) := by decide +kernel
theorem dX9_current_15 : decode cX9_current 15 = .ok (.goto 21, 3) := by decide +kernel
theorem dX9_current_18 : decode cX9_current 18 = .ok (.iload_n 2, 1) := by decide +kernel
theorem dX9_current_19 : decode cX9_current 19 = .ok (.iload_n 2, 1) := by decide +kernel
theorem dX9_current_20 : decode cX9_current 20 = .ok (.aload_n 0, 1) := by decide +kernel
theorem dX9_current_21 : decode cX9_current 21 = .ok (.iload_n 1, 1) := by decide +kernel
theorem dX9_current_22 : decode cX9_current 22 = .ok (.iconst 2, 1) := by decide +kernel
theorem dX9_current_23 : decode cX9_current 23 = .ok (.invokestatic 56, 3) := by decide +kernel
theorem dX9_current_26 : decode cX9_current 26 = .ok (.imul, 1) := by decide +kernel
theorem dX9_current_27 : decode cX9_current 27 = .ok (.iconst 4, 1) := by decide +kernel
theorem dX9_current_28 : decode cX9_current 28 = .ok (.aload_n 0, 1) := by decide +kernel
theorem dX9_current_29 : decode cX9_current 29 = .ok (.iload_n 1, 1) := by decide +kernel
theorem dX9_current_30 : decode cX9_current 30 = .ok (.invokestatic 64, 3) := by decide +kernel
theorem dX9_current_33 : decode cX9_current 33 = .ok (.imul, 1) := by decide +kernel
theorem dX9_current_34 : decode cX9_current 34 = .ok (.idiv, 1) := by decide +kernel
theorem dX9_current_35 : decode cX9_current 35 = .ok (.isub, 1) := by decide +kernel
theorem dX9_current_36 : decode cX9_current 36 = .ok (.ireturn, 1) := by decide +kernel
theorem dX9_isBelow_0 : decode cX9_isBelow 0 = .ok (.bipush 100, 2) := by decide +kernel
theorem dX9_isBelow_2 : decode cX9_isBelow 2 = .ok (.aload_n 0, 1) := by decide +kernel
theorem dX9_isBelow_3 : decode cX9_isBelow 3 = .ok (.iload_n 1, 1) := by decide +kernel
theorem dX9_isBelow_4 : decode cX9_isBelow 4 = .ok (.invokestatic 75, 3) := by decide +kernel
theorem dX9_isBelow_7 : decode cX9_isBelow 7 = .ok (.imul, 1) := by decide +kernel
theorem dX9_isBelow_8 : decode cX9_isBelow 8 = .ok (.aload_n 0, 1) := by decide +kernel
theorem dX9_isBelow_9 : decode cX9_isBelow 9 = .ok (.iconst 3, 1) := by decide +kernel
theorem dX9_isBelow_10 : decode cX9_isBelow 10 = .ok (.iaload, 1) := by decide +kernel
theorem dX9_isBelow_11 : decode cX9_isBelow 11 = .ok (.aload_n 0, 1) := by decide +kernel
theorem dX9_isBelow_12 : decode cX9_isBelow 12 = .ok (.iload_n 1, 1) := by decide +kernel
theorem dX9_isBelow_13 : decode cX9_isBelow 13 = .ok (.invokestatic 68, 3) := by decide +kernel
theorem dX9_isBelow_16 : decode cX9_isBelow 16 = .ok (.imul, 1) := by decide +kernel
theorem dX9_isBelow_17 : decode cX9_isBelow 17 = .ok (.if_icmp .ge 7, 3) := by decide +kernel
theorem dX9_isBelow_20 : decode cX9_isBelow 20 = .ok (.iconst 1, 1) := by decide +kernel
theorem dX9_isBelow_21 : decode cX9_isBelow 21 = .ok (.goto 4, 3) := by decide +kernel
theorem dX9_isBelow_24 : decode cX9_isBelow 24 = .ok (.iconst 0, 1) := by decide +kernel
theorem dX9_isBelow_25 : decode cX9_isBelow 25 = .ok (.ireturn, 1) := by decide +kernel
theorem dX9_isGood_0 : decode cX9_isGood 0 = .ok (.aload_n 0, 1) := by decide +kernel
theorem dX9_isGood_1 : decode cX9_isGood 1 = .ok (.iload_n 1, 1) := by decide +kernel
theorem dX9_isGood_2 : decode cX9_isGood 2 = .ok (.invokestatic 78, 3) := by decide +kernel
theorem dX9_isGood_5 : decode cX9_isGood 5 = .ok (.ifCond .eq 29, 3) := by decide +kernel
theorem dX9_isGood_8 : decode cX9_isGood 8 = .ok (.aload_n 0, 1) := by decide +kernel
theorem dX9_isGood_9 : decode cX9_isGood 9 = .ok (.iload_n 1, 1) := by decide +kernel
theorem dX9_isGood_10 : decode cX9_isGood 10 = .ok (.invokestatic 71, 3) := by decide +kernel
theorem dX9_isGood_13 : decode cX9_isGood 13 = .ok (.ifCond .ne 21, 3) := by decide +kernel
theorem dX9_isGood_16 : decode cX9_isGood 16 = .ok (.iload_n 2, 1) := by decide +kernel
theorem dX9_isGood_17 : decode cX9_isGood 17 = .ok (.ifCond .eq 13, 3) := by decide +kernel
theorem dX9_isGood_20 : decode cX9_isGood 20 = .ok (.aload_n 0, 1) := by decide +kernel
theorem dX9_isGood_21 : decode cX9_isGood 21 = .ok (.iload_n 1, 1) := by decide +kernel
theorem dX9_isGood_22 : decode cX9_isGood 22 = .ok (.iconst 3, 1) := by decide +kernel
theorem dX9_isGood_23 : decode cX9_isGood 23 = .ok (.invokestatic 56, 3) := by decide +kernel
theorem dX9_isGood_26 : decode cX9_isGood 26 = .ok (.iconst 1, 1) := by decide +kernel
theorem dX9_isGood_27 : decode cX9_isGood 27 = .ok (.if_icmp .eq 7, 3) := by decide +kernel
theorem dX9_isGood_30 : decode cX9_isGood 30 = .ok (.iconst 1, 1) := by decide +kernel
theorem dX9_isGood_31 : decode cX9_isGood 31 = .ok (.goto 4, 3) := by decide +kernel
theorem dX9_isGood_34 : decode cX9_isGood 34 = .ok (.iconst 0, 1) := by decide +kernel
theorem dX9_isGood_35 : decode cX9_isGood 35 = .ok (.ireturn, 1) := by decide +kernel
theorem dX9_found_0 : decode cX9_found 0 = .ok (.iconst 1, 1) := by decide +kernel
theorem dX9_found_1 : decode cX9_found 1 = .ok (.istore_n 2, 1) := by decide +kernel
theorem dX9_found_2 : decode cX9_found 2 = .ok (.iload_n 2, 1) := by decide +kernel
theorem dX9_found_3 : decode cX9_found 3 = .ok (.bipush 6, 2) := by decide +kernel
theorem dX9_found_5 : decode cX9_found 5 = .ok (.if_icmp .gt 30, 3) := by decide +kernel
theorem dX9_found_8 : decode cX9_found 8 = .ok (.aload_n 0, 1) := by decide +kernel
theorem dX9_found_9 : decode cX9_found 9 = .ok (.bipush 7, 2) := by decide +kernel
theorem dX9_found_11 : decode cX9_found 11 = .ok (.iaload, 1) := by decide +kernel
theorem dX9_found_12 : decode cX9_found 12 = .ok (.iload_n 2, 1) := by decide +kernel
theorem dX9_found_13 : decode cX9_found 13 = .ok (.iadd, 1) := by decide +kernel
theorem dX9_found_14 : decode cX9_found 14 = .ok (.bipush 6, 2) := by decide +kernel
theorem dX9_found_16 : decode cX9_found 16 = .ok (.irem, 1) := by decide +kernel
theorem dX9_found_17 : decode cX9_found 17 = .ok (.istore_n 3, 1) := by decide +kernel
theorem dX9_found_18 : decode cX9_found 18 = .ok (.aload_n 0, 1) := by decide +kernel
theorem dX9_found_19 : decode cX9_found 19 = .ok (.iload_n 3, 1) := by decide +kernel
theorem dX9_found_20 : decode cX9_found 20 = .ok (.iload_n 1, 1) := by decide +kernel
theorem dX9_found_21 : decode cX9_found 21 = .ok (.invokestatic 81, 3) := by decide +kernel
theorem dX9_found_24 : decode cX9_found 24 = .ok (.ifCond .eq 5, 3) := by decide +kernel
theorem dX9_found_27 : decode cX9_found 27 = .ok (.iload_n 3, 1) := by decide +kernel
theorem dX9_found_28 : decode cX9_found 28 = .ok (.ireturn, 1) := by decide +kernel
theorem dX9_found_29 : decode cX9_found 29 = .ok (.iinc 2 1, 3) := by decide +kernel
theorem dX9_found_32 : decode cX9_found 32 = .ok (.goto (-30), 3) := by decide +kernel
theorem dX9_found_35 : decode cX9_found 35 = .ok (.bipush (-5), 2) := by decide +kernel
theorem dX9_found_37 : decode cX9_found 37 = .ok (.ireturn, 1) := by decide +kernel
theorem dX9_next_0 : decode cX9_next 0 = .ok (.aload_n 0, 1) := by decide +kernel
theorem dX9_next_1 : decode cX9_next 1 = .ok (.iconst 1, 1) := by decide +kernel
theorem dX9_next_2 : decode cX9_next 2 = .ok (.invokestatic 85, 3) := by decide +kernel
theorem dX9_next_5 : decode cX9_next 5 = .ok (.istore_n 1, 1) := by decide +kernel
theorem dX9_next_6 : decode cX9_next 6 = .ok (.iload_n 1, 1) := by decide +kernel
theorem dX9_next_7 : decode cX9_next 7 = .ok (.bipush (-5), 2) := by decide +kernel
theorem dX9_next_9 : decode cX9_next 9 = .ok (.if_icmp .ne 11, 3) := by decide +kernel
theorem dX9_next_12 : decode cX9_next 12 = .ok (.aload_n 0, 1) := by decide +kernel
theorem dX9_next_13 : decode cX9_next 13 = .ok (.iconst 0, 1) := by decide +kernel
theorem dX9_next_14 : decode cX9_next 14 = .ok (.invokestatic 85, 3) := by decide +kernel
theorem dX9_next_17 : decode cX9_next 17 = .ok (.goto 4, 3) := by decide +kernel
theorem dX9_next_20 : decode cX9_next 20 = .ok (.iload_n 1, 1) := by decide +kernel
theorem dX9_next_21 : decode cX9_next 21 = .ok (.ireturn, 1) := by decide +kernel
theorem dX9_happens_0 : decode cX9_happens 0 = .ok (.aload_n 0, 1) := by decide +kernel
theorem dX9_happens_1 : decode cX9_happens 1 = .ok (.bipush 80, 2) := by decide +kernel
theorem dX9_happens_3 : decode cX9_happens 3 = .ok (.iaload, 1) := by decide +kernel
theorem dX9_happens_4 : decode cX9_happens 4 = .ok (.bipush 10, 2) := by decide +kernel
theorem dX9_happens_6 : decode cX9_happens 6 = .ok (.if_icmp .ne 34, 3) := by decide +kernel
theorem dX9_happens_9 : decode cX9_happens 9 = .ok (.bipush 81, 2) := by decide +kernel
theorem dX9_happens_11 : decode cX9_happens 11 = .ok (.istore_n 3, 1) := by decide +kernel
theorem dX9_happens_12 : decode cX9_happens 12 = .ok (.iload_n 3, 1) := by decide +kernel
theorem dX9_happens_13 : decode cX9_happens 13 = .ok (.bipush 108, 2) := by decide +kernel
theorem dX9_happens_15 : decode cX9_happens 15 = .ok (.if_icmp .ge 17, 3) := by decide +kernel
theorem dX9_happens_18 : decode cX9_happens 18 = .ok (.aload_n 0, 1) := by decide +kernel
theorem dX9_happens_19 : decode cX9_happens 19 = .ok (.iload_n 3, 1) := by decide +kernel
theorem dX9_happens_20 : decode cX9_happens 20 = .ok (.aload_n 0, 1) := by decide +kernel
theorem dX9_happens_21 : decode cX9_happens 21 = .ok (.iload_n 3, 1) := by decide +kernel
theorem dX9_happens_22 : decode cX9_happens 22 = .ok (.iconst 3, 1) := by decide +kernel
theorem dX9_happens_23 : decode cX9_happens 23 = .ok (.iadd, 1) := by decide +kernel
theorem dX9_happens_24 : decode cX9_happens 24 = .ok (.iaload, 1) := by decide +kernel
theorem dX9_happens_25 : decode cX9_happens 25 = .ok (.iastore, 1) := by decide +kernel
theorem dX9_happens_26 : decode cX9_happens 26 = .ok (.iinc 3 1, 3) := by decide +kernel
theorem dX9_happens_29 : decode cX9_happens 29 = .ok (.goto (-17), 3) := by decide +kernel
theorem dX9_happens_32 : decode cX9_happens 32 = .ok (.aload_n 0, 1) := by decide +kernel
theorem dX9_happens_33 : decode cX9_happens 33 = .ok (.bipush 80, 2) := by decide +kernel
theorem dX9_happens_35 : decode cX9_happens 35 = .ok (.dup2, 1) := by decide +kernel
theorem dX9_happens_36 : decode cX9_happens 36 = .ok (.iaload, 1) := by decide +kernel
theorem dX9_happens_37 : decode cX9_happens 37 = .ok (.iconst 1, 1) := by decide +kernel
theorem dX9_happens_38 : decode cX9_happens 38 = .ok (.isub, 1) := by decide +kernel
theorem dX9_happens_39 : decode cX9_happens 39 = .ok (.iastore, 1) := by decide +kernel
theorem dX9_happens_40 : decode cX9_happens 40 = .ok (.bipush 81, 2) := by decide +kernel
theorem dX9_happens_42 : decode cX9_happens 42 = .ok (.iconst 3, 1) := by decide +kernel
theorem dX9_happens_43 : decode cX9_happens 43 = .ok (.aload_n 0, 1) := by decide +kernel
theorem dX9_happens_44 : decode cX9_happens 44 = .ok (.bipush 80, 2) := by decide +kernel
theorem dX9_happens_46 : decode cX9_happens 46 = .ok (.iaload, 1) := by decide +kernel
theorem dX9_happens_47 : decode cX9_happens 47 = .ok (.imul, 1) := by decide +kernel
theorem dX9_happens_48 : decode cX9_happens 48 = .ok (.iadd, 1) := by decide +kernel
theorem dX9_happens_49 : decode cX9_happens 49 = .ok (.istore_n 3, 1) := by decide +kernel
theorem dX9_happens_50 : decode cX9_happens 50 = .ok (.aload_n 0, 1) := by decide +kernel
theorem dX9_happens_51 : decode cX9_happens 51 = .ok (.iload_n 3, 1) := by decide +kernel
theorem dX9_happens_52 : decode cX9_happens 52 = .ok (.iload_n 1, 1) := by decide +kernel
theorem dX9_happens_53 : decode cX9_happens 53 = .ok (.iastore, 1) := by decide +kernel
theorem dX9_happens_54 : decode cX9_happens 54 = .ok (.aload_n 0, 1) := by decide +kernel
theorem dX9_happens_55 : decode cX9_happens 55 = .ok (.iload_n 3, 1) := by decide +kernel
theorem dX9_happens_56 : decode cX9_happens 56 = .ok (.iconst 1, 1) := by decide +kernel
theorem dX9_happens_57 : decode cX9_happens 57 = .ok (.iadd, 1) := by decide +kernel
theorem dX9_happens_58 : decode cX9_happens 58 = .ok (.iload_n 2, 1) := by decide +kernel
theorem dX9_happens_59 : decode cX9_happens 59 = .ok (.iastore, 1) := by decide +kernel
theorem dX9_happens_60 : decode cX9_happens 60 = .ok (.aload_n 0, 1) := by decide +kernel
theorem dX9_happens_61 : decode cX9_happens 61 = .ok (.iload_n 3, 1) := by decide +kernel
theorem dX9_happens_62 : decode cX9_happens 62 = .ok (.iconst 2, 1) := by decide +kernel
theorem dX9_happens_63 : decode cX9_happens 63 = .ok (.iadd, 1) := by decide +kernel
theorem dX9_happens_64 : decode cX9_happens 64 = .ok (.aload_n 0, 1) := by decide +kernel
theorem dX9_happens_65 : decode cX9_happens 65 = .ok (.iconst 0, 1) := by decide +kernel
theorem dX9_happens_66 : decode cX9_happens 66 = .ok (.iaload, 1) := by decide +kernel
theorem dX9_happens_67 : decode cX9_happens 67 = .ok (.iastore, 1) := by decide +kernel
theorem dX9_happens_68 : decode cX9_happens 68 = .ok (.aload_n 0, 1) := by decide +kernel
theorem dX9_happens_69 : decode cX9_happens 69 = .ok (.bipush 80, 2) := by decide +kernel
theorem dX9_happens_71 : decode cX9_happens 71 = .ok (.dup2, 1) := by decide +kernel
theorem dX9_happens_72 : decode cX9_happens 72 = .ok (.iaload, 1) := by decide +kernel
theorem dX9_happens_73 : decode cX9_happens 73 = .ok (.iconst 1, 1) := by decide +kernel
theorem dX9_happens_74 : decode cX9_happens 74 = .ok (.iadd, 1) := by decide +kernel
theorem dX9_happens_75 : decode cX9_happens 75 = .ok (.iastore, 1) := by decide +kernel
theorem dX9_happens_76 : decode cX9_happens 76 = .ok (.aload_n 0, 1) := by decide +kernel
theorem dX9_happens_77 : decode cX9_happens 77 = .ok (.bipush 47, 2) := by decide +kernel
theorem dX9_happens_79 : decode cX9_happens 79 = .ok (.dup2, 1) := by decide +kernel
theorem dX9_happens_80 : decode cX9_happens 80 = .ok (.iaload, 1) := by decide +kernel
theorem dX9_happens_81 : decode cX9_happens 81 = .ok (.iload_n 1, 1) := by decide +kernel
theorem dX9_happens_82 : decode cX9_happens 82 = .ok (.iconst 4, 1) := by decide +kernel
theorem dX9_happens_83 : decode cX9_happens 83 = .ok (.if_icmp .ge 7, 3) := by decide +kernel
theorem dX9_happens_86 : decode cX9_happens 86 = .ok (.iconst 1, 1) := by decide +kernel
theorem dX9_happens_87 : decode cX9_happens 87 = .ok (.goto 4, 3) := by decide +kernel
theorem dX9_happens_90 : decode cX9_happens 90 = .ok (.iconst 0, 1) := by decide +kernel
theorem dX9_happens_91 : decode cX9_happens 91 = .ok (.iadd, 1) := by decide +kernel
theorem dX9_happens_92 : decode cX9_happens 92 = .ok (.iastore, 1) := by decide +kernel
theorem dX9_happens_93 : decode cX9_happens 93 = .ok (.return_, 1) := by decide +kernel
theorem dX9_turns_0 : decode cX9_turns 0 = .ok (.aload_n 0, 1) := by decide +kernel
theorem dX9_turns_1 : decode cX9_turns 1 = .ok (.bipush 8, 2) := by decide +kernel
theorem dX9_turns_3 : decode cX9_turns 3 = .ok (.iload_n 1, 1) := by decide +kernel
theorem dX9_turns_4 : decode cX9_turns 4 = .ok (.iastore, 1) := by decide +kernel
theorem dX9_turns_5 : decode cX9_turns 5 = .ok (.aload_n 0, 1) := by decide +kernel
theorem dX9_turns_6 : decode cX9_turns 6 = .ok (.bipush 9, 2) := by decide +kernel
theorem dX9_turns_8 : decode cX9_turns 8 = .ok (.iload_n 1, 1) := by decide +kernel
theorem dX9_turns_9 : decode cX9_turns 9 = .ok (.aload_n 0, 1) := by decide +kernel
theorem dX9_turns_10 : decode cX9_turns 10 = .ok (.bipush 7, 2) := by decide +kernel
theorem dX9_turns_12 : decode cX9_turns 12 = .ok (.iaload, 1) := by decide +kernel
theorem dX9_turns_13 : decode cX9_turns 13 = .ok (.isub, 1) := by decide +kernel
theorem dX9_turns_14 : decode cX9_turns 14 = .ok (.bipush 6, 2) := by decide +kernel
theorem dX9_turns_16 : decode cX9_turns 16 = .ok (.iadd, 1) := by decide +kernel
theorem dX9_turns_17 : decode cX9_turns 17 = .ok (.bipush 6, 2) := by decide +kernel
theorem dX9_turns_19 : decode cX9_turns 19 = .ok (.irem, 1) := by decide +kernel
theorem dX9_turns_20 : decode cX9_turns 20 = .ok (.aload_n 0, 1) := by decide +kernel
theorem dX9_turns_21 : decode cX9_turns 21 = .ok (.iconst 5, 1) := by decide +kernel
theorem dX9_turns_22 : decode cX9_turns 22 = .ok (.iaload, 1) := by decide +kernel
theorem dX9_turns_23 : decode cX9_turns 23 = .ok (.imul, 1) := by decide +kernel
theorem dX9_turns_24 : decode cX9_turns 24 = .ok (.iastore, 1) := by decide +kernel
theorem dX9_turns_25 : decode cX9_turns 25 = .ok (.aload_n 0, 1) := by decide +kernel
theorem dX9_turns_26 : decode cX9_turns 26 = .ok (.bipush 10, 2) := by decide +kernel
theorem dX9_turns_28 : decode cX9_turns 28 = .ok (.iconst 0, 1) := by decide +kernel
theorem dX9_turns_29 : decode cX9_turns 29 = .ok (.iastore, 1) := by decide +kernel
theorem dX9_turns_30 : decode cX9_turns 30 = .ok (.return_, 1) := by decide +kernel
theorem dX9_isNight_0 : decode cX9_isNight 0 = .ok (.aload_n 0, 1) := by decide +kernel
theorem dX9_isNight_1 : decode cX9_isNight 1 = .ok (.iconst 0, 1) := by decide +kernel
theorem dX9_isNight_2 : decode cX9_isNight 2 = .ok (.iaload, 1) := by decide +kernel
theorem dX9_isNight_3 : decode cX9_isNight 3 = .ok (.bipush 48, 2) := by decide +kernel
theorem dX9_isNight_5 : decode cX9_isNight 5 = .ok (.irem, 1) := by decide +kernel
theorem dX9_isNight_6 : decode cX9_isNight 6 = .ok (.istore_n 1, 1) := by decide +kernel
theorem dX9_isNight_7 : decode cX9_isNight 7 = .ok (.iload_n 1, 1) := by decide +kernel
theorem dX9_isNight_8 : decode cX9_isNight 8 = .ok (.aload_n 0, 1) := by decide +kernel
theorem dX9_isNight_9 : decode cX9_isNight 9 = .ok (.iconst 1, 1) := by decide +kernel
theorem dX9_isNight_10 : decode cX9_isNight 10 = .ok (.iaload, 1) := by decide +kernel
theorem dX9_isNight_11 : decode cX9_isNight 11 = .ok (.isub, 1) := by decide +kernel
theorem dX9_isNight_12 : decode cX9_isNight 12 = .ok (.bipush 48, 2) := by decide +kernel
theorem dX9_isNight_14 : decode cX9_isNight 14 = .ok (.iadd, 1) := by decide +kernel
theorem dX9_isNight_15 : decode cX9_isNight 15 = .ok (.bipush 48, 2) := by decide +kernel
theorem dX9_isNight_17 : decode cX9_isNight 17 = .ok (.irem, 1) := by decide +kernel
theorem dX9_isNight_18 : decode cX9_isNight 18 = .ok (.aload_n 0, 1) := by decide +kernel
theorem dX9_isNight_19 : decode cX9_isNight 19 = .ok (.iconst 2, 1) := by decide +kernel
theorem dX9_isNight_20 : decode cX9_isNight 20 = .ok (.iaload, 1) := by decide +kernel
theorem dX9_isNight_21 : decode cX9_isNight 21 = .ok (.aload_n 0, 1) := by decide +kernel
theorem dX9_isNight_22 : decode cX9_isNight 22 = .ok (.iconst 1, 1) := by decide +kernel
theorem dX9_isNight_23 : decode cX9_isNight 23 = .ok (.iaload, 1) := by decide +kernel
theorem dX9_isNight_24 : decode cX9_isNight 24 = .ok (.isub, 1) := by decide +kernel
theorem dX9_isNight_25 : decode cX9_isNight 25 = .ok (.bipush 48, 2) := by decide +kernel
theorem dX9_isNight_27 : decode cX9_isNight 27 = .ok (.iadd, 1) := by decide +kernel
theorem dX9_isNight_28 : decode cX9_isNight 28 = .ok (.bipush 48, 2) := by decide +kernel
theorem dX9_isNight_30 : decode cX9_isNight 30 = .ok (.irem, 1) := by decide +kernel
theorem dX9_isNight_31 : decode cX9_isNight 31 = .ok (.if_icmp .ge 7, 3) := by decide +kernel
theorem dX9_isNight_34 : decode cX9_isNight 34 = .ok (.iconst 1, 1) := by decide +kernel
theorem dX9_isNight_35 : decode cX9_isNight 35 = .ok (.goto 4, 3) := by decide +kernel
theorem dX9_isNight_38 : decode cX9_isNight 38 = .ok (.iconst 0, 1) := by decide +kernel
theorem dX9_isNight_39 : decode cX9_isNight 39 = .ok (.ireturn, 1) := by decide +kernel
theorem dX9_burns_0 : decode cX9_burns 0 = .ok (.aload_n 0, 1) := by decide +kernel
theorem dX9_burns_1 : decode cX9_burns 1 = .ok (.iload_n 1, 1) := by decide +kernel
theorem dX9_burns_2 : decode cX9_burns 2 = .ok (.iconst 2, 1) := by decide +kernel
theorem dX9_burns_3 : decode cX9_burns 3 = .ok (.aload_n 0, 1) := by decide +kernel
theorem dX9_burns_4 : decode cX9_burns 4 = .ok (.iload_n 1, 1) := by decide +kernel
theorem dX9_burns_5 : decode cX9_burns 5 = .ok (.iconst 2, 1) := by decide +kernel
theorem dX9_burns_6 : decode cX9_burns 6 = .ok (.invokestatic 56, 3) := by decide +kernel
theorem dX9_burns_9 : decode cX9_burns 9 = .ok (.iconst 1, 1) := by decide +kernel
theorem dX9_burns_10 : decode cX9_burns 10 = .ok (.iadd, 1) := by decide +kernel
theorem dX9_burns_11 : decode cX9_burns 11 = .ok (.invokestatic 52, 3) := by decide +kernel
theorem dX9_burns_14 : decode cX9_burns 14 = .ok (.aload_n 0, 1) := by decide +kernel
theorem dX9_burns_15 : decode cX9_burns 15 = .ok (.iload_n 1, 1) := by decide +kernel
theorem dX9_burns_16 : decode cX9_burns 16 = .ok (.iconst 4, 1) := by decide +kernel
theorem dX9_burns_17 : decode cX9_burns 17 = .ok (.aload_n 0, 1) := by decide +kernel
theorem dX9_burns_18 : decode cX9_burns 18 = .ok (.iload_n 1, 1) := by decide +kernel
theorem dX9_burns_19 : decode cX9_burns 19 = .ok (.invokestatic 89, 3) := by decide +kernel
theorem dX9_burns_22 : decode cX9_burns 22 = .ok (.ifCond .eq 14, 3) := by decide +kernel
theorem dX9_burns_25 : decode cX9_burns 25 = .ok (.aload_n 0, 1) := by decide +kernel
theorem dX9_burns_26 : decode cX9_burns 26 = .ok (.iload_n 1, 1) := by decide +kernel
theorem dX9_burns_27 : decode cX9_burns 27 = .ok (.iconst 4, 1) := by decide +kernel
theorem dX9_burns_28 : decode cX9_burns 28 = .ok (.invokestatic 56, 3) := by decide +kernel
theorem dX9_burns_31 : decode cX9_burns 31 = .ok (.iconst 1, 1) := by decide +kernel
theorem dX9_burns_32 : decode cX9_burns 32 = .ok (.iadd, 1) := by decide +kernel
theorem dX9_burns_33 : decode cX9_burns 33 = .ok (.goto 4, 3) := by decide +kernel
theorem dX9_burns_36 : decode cX9_burns 36 = .ok (.iconst 0, 1) := by decide +kernel
theorem dX9_burns_37 : decode cX9_burns 37 = .ok (.invokestatic 52, 3) := by decide +kernel
theorem dX9_burns_40 : decode cX9_burns 40 = .ok (.aload_n 0, 1) := by decide +kernel
theorem dX9_burns_41 : decode cX9_burns 41 = .ok (.iload_n 1, 1) := by decide +kernel
theorem dX9_burns_42 : decode cX9_burns 42 = .ok (.iconst 4, 1) := by decide +kernel
theorem dX9_burns_43 : decode cX9_burns 43 = .ok (.invokestatic 56, 3) := by decide +kernel
theorem dX9_burns_46 : decode cX9_burns 46 = .ok (.aload_n 0, 1) := by decide +kernel
theorem dX9_burns_47 : decode cX9_burns 47 = .ok (.iconst 4, 1) := by decide +kernel
theorem dX9_burns_48 : decode cX9_burns 48 = .ok (.iaload, 1) := by decide +kernel
theorem dX9_burns_49 : decode cX9_burns 49 = .ok (.if_icmp .lt 25, 3) := by decide +kernel
theorem dX9_burns_52 : decode cX9_burns 52 = .ok (.aload_n 0, 1) := by decide +kernel
theorem dX9_burns_53 : decode cX9_burns 53 = .ok (.iload_n 1, 1) := by decide +kernel
theorem dX9_burns_54 : decode cX9_burns 54 = .ok (.iconst 3, 1) := by decide +kernel
theorem dX9_burns_55 : decode cX9_burns 55 = .ok (.invokestatic 56, 3) := by decide +kernel
theorem dX9_burns_58 : decode cX9_burns 58 = .ok (.ifCond .ne 16, 3) := by decide +kernel
theorem dX9_burns_61 : decode cX9_burns 61 = .ok (.aload_n 0, 1) := by decide +kernel
theorem dX9_burns_62 : decode cX9_burns 62 = .ok (.iload_n 1, 1) := by decide +kernel
theorem dX9_burns_63 : decode cX9_burns 63 = .ok (.iconst 3, 1) := by decide +kernel
theorem dX9_burns_64 : decode cX9_burns 64 = .ok (.iconst 1, 1) := by decide +kernel
theorem dX9_burns_65 : decode cX9_burns 65 = .ok (.invokestatic 52, 3) := by decide +kernel
theorem dX9_burns_68 : decode cX9_burns 68 = .ok (.aload_n 0, 1) := by decide +kernel
theorem dX9_burns_69 : decode cX9_burns 69 = .ok (.iconst 1, 1) := by decide +kernel
theorem dX9_burns_70 : decode cX9_burns 70 = .ok (.iload_n 1, 1) := by decide +kernel
theorem dX9_burns_71 : decode cX9_burns 71 = .ok (.invokestatic 92, 3) := by decide +kernel
theorem dX9_burns_74 : decode cX9_burns 74 = .ok (.aload_n 0, 1) := by decide +kernel
theorem dX9_burns_75 : decode cX9_burns 75 = .ok (.bipush 10, 2) := by decide +kernel
theorem dX9_burns_77 : decode cX9_burns 77 = .ok (.iconst 1, 1) := by decide +kernel
theorem dX9_burns_78 : decode cX9_burns 78 = .ok (.iastore, 1) := by decide +kernel
theorem dX9_burns_79 : decode cX9_burns 79 = .ok (.aload_n 0, 1) := by decide +kernel
theorem dX9_burns_80 : decode cX9_burns 80 = .ok (.iload_n 1, 1) := by decide +kernel
theorem dX9_burns_81 : decode cX9_burns 81 = .ok (.invokestatic 71, 3) := by decide +kernel
theorem dX9_burns_84 : decode cX9_burns 84 = .ok (.ifCond .eq 14, 3) := by decide +kernel
theorem dX9_burns_87 : decode cX9_burns 87 = .ok (.aload_n 0, 1) := by decide +kernel
theorem dX9_burns_88 : decode cX9_burns 88 = .ok (.iconst 0, 1) := by decide +kernel
theorem dX9_burns_89 : decode cX9_burns 89 = .ok (.iload_n 1, 1) := by decide +kernel
theorem dX9_burns_90 : decode cX9_burns 90 = .ok (.invokestatic 92, 3) := by decide +kernel
theorem dX9_burns_93 : decode cX9_burns 93 = .ok (.aload_n 0, 1) := by decide +kernel
theorem dX9_burns_94 : decode cX9_burns 94 = .ok (.bipush 10, 2) := by decide +kernel
theorem dX9_burns_96 : decode cX9_burns 96 = .ok (.iconst 0, 1) := by decide +kernel
theorem dX9_burns_97 : decode cX9_burns 97 = .ok (.iastore, 1) := by decide +kernel
theorem dX9_burns_98 : decode cX9_burns 98 = .ok (.return_, 1) := by decide +kernel
theorem dX9_isLit_0 : decode cX9_isLit 0 = .ok (.aload_n 0, 1) := by decide +kernel
theorem dX9_isLit_1 : decode cX9_isLit 1 = .ok (.bipush 7, 2) := by decide +kernel
theorem dX9_isLit_3 : decode cX9_isLit 3 = .ok (.iaload, 1) := by decide +kernel
theorem dX9_isLit_4 : decode cX9_isLit 4 = .ok (.istore_n 1, 1) := by decide +kernel
theorem dX9_isLit_5 : decode cX9_isLit 5 = .ok (.aload_n 0, 1) := by decide +kernel
theorem dX9_isLit_6 : decode cX9_isLit 6 = .ok (.iload_n 1, 1) := by decide +kernel
theorem dX9_isLit_7 : decode cX9_isLit 7 = .ok (.iconst 0, 1) := by decide +kernel
theorem dX9_isLit_8 : decode cX9_isLit 8 = .ok (.invokestatic 81, 3) := by decide +kernel
theorem dX9_isLit_11 : decode cX9_isLit 11 = .ok (.ifCond .ne 32, 3) := by decide +kernel
theorem dX9_isLit_14 : decode cX9_isLit 14 = .ok (.aload_n 0, 1) := by decide +kernel
theorem dX9_isLit_15 : decode cX9_isLit 15 = .ok (.invokestatic 96, 3) := by decide +kernel
theorem dX9_isLit_18 : decode cX9_isLit 18 = .ok (.istore_n 2, 1) := by decide +kernel
theorem dX9_isLit_19 : decode cX9_isLit 19 = .ok (.iload_n 2, 1) := by decide +kernel
theorem dX9_isLit_20 : decode cX9_isLit 20 = .ok (.bipush (-5), 2) := by decide +kernel
theorem dX9_isLit_22 : decode cX9_isLit 22 = .ok (.if_icmp .eq 19, 3) := by decide +kernel
theorem dX9_isLit_25 : decode cX9_isLit 25 = .ok (.iload_n 2, 1) := by decide +kernel
theorem dX9_isLit_26 : decode cX9_isLit 26 = .ok (.iload_n 1, 1) := by decide +kernel
theorem dX9_isLit_27 : decode cX9_isLit 27 = .ok (.if_icmp .eq 14, 3) := by decide +kernel
theorem dX9_isLit_30 : decode cX9_isLit 30 = .ok (.aload_n 0, 1) := by decide +kernel
theorem dX9_isLit_31 : decode cX9_isLit 31 = .ok (.iload_n 2, 1) := by decide +kernel
theorem dX9_isLit_32 : decode cX9_isLit 32 = .ok (.invokestatic 100, 3) := by decide +kernel
theorem dX9_isLit_35 : decode cX9_isLit 35 = .ok (.aload_n 0, 1) := by decide +kernel
theorem dX9_isLit_36 : decode cX9_isLit 36 = .ok (.iconst 2, 1) := by decide +kernel
theorem dX9_isLit_37 : decode cX9_isLit 37 = .ok (.iload_n 2, 1) := by decide +kernel
theorem dX9_isLit_38 : decode cX9_isLit 38 = .ok (.invokestatic 92, 3) := by decide +kernel
theorem dX9_isLit_41 : decode cX9_isLit 41 = .ok (.iconst 0, 1) := by decide +kernel
theorem dX9_isLit_42 : decode cX9_isLit 42 = .ok (.ireturn, 1) := by decide +kernel
theorem dX9_isLit_43 : decode cX9_isLit 43 = .ok (.aload_n 0, 1) := by decide +kernel
theorem dX9_isLit_44 : decode cX9_isLit 44 = .ok (.bipush 10, 2) := by decide +kernel
theorem dX9_isLit_46 : decode cX9_isLit 46 = .ok (.iaload, 1) := by decide +kernel
theorem dX9_isLit_47 : decode cX9_isLit 47 = .ok (.ifCond .ne 46, 3) := by decide +kernel
theorem dX9_isLit_50 : decode cX9_isLit 50 = .ok (.aload_n 0, 1) := by decide +kernel
theorem dX9_isLit_51 : decode cX9_isLit 51 = .ok (.iload_n 1, 1) := by decide +kernel
theorem dX9_isLit_52 : decode cX9_isLit 52 = .ok (.iconst 2, 1) := by decide +kernel
theorem dX9_isLit_53 : decode cX9_isLit 53 = .ok (.aload_n 0, 1) := by decide +kernel
theorem dX9_isLit_54 : decode cX9_isLit 54 = .ok (.iload_n 1, 1) := by decide +kernel
theorem dX9_isLit_55 : decode cX9_isLit 55 = .ok (.iconst 2, 1) := by decide +kernel
theorem dX9_isLit_56 : decode cX9_isLit 56 = .ok (.invokestatic 56, 3) := by decide +kernel
theorem dX9_isLit_59 : decode cX9_isLit 59 = .ok (.aload_n 0, 1) := by decide +kernel
theorem dX9_isLit_60 : decode cX9_isLit 60 = .ok (.iload_n 1, 1) := by decide +kernel
theorem dX9_isLit_61 : decode cX9_isLit 61 = .ok (.iconst 0, 1) := by decide +kernel
theorem dX9_isLit_62 : decode cX9_isLit 62 = .ok (.invokestatic 56, 3) := by decide +kernel
theorem dX9_isLit_65 : decode cX9_isLit 65 = .ok (.bipush 10, 2) := by decide +kernel
theorem dX9_isLit_67 : decode cX9_isLit 67 = .ok (.bipush 15, 2) := by decide +kernel
theorem dX9_isLit_69 : decode cX9_isLit 69 = .ok (.iconst 5, 1) := by decide +kernel
theorem dX9_isLit_70 : decode cX9_isLit 70 = .ok (.invokestatic 60, 3) := by decide +kernel
theorem dX9_isLit_73 : decode cX9_isLit 73 = .ok (.iadd, 1) := by decide +kernel
theorem dX9_isLit_74 : decode cX9_isLit 74 = .ok (.invokestatic 52, 3) := by decide +kernel
theorem dX9_isLit_77 : decode cX9_isLit 77 = .ok (.aload_n 0, 1) := by decide +kernel
theorem dX9_isLit_78 : decode cX9_isLit 78 = .ok (.iload_n 1, 1) := by decide +kernel
theorem dX9_isLit_79 : decode cX9_isLit 79 = .ok (.invokestatic 71, 3) := by decide +kernel
theorem dX9_isLit_82 : decode cX9_isLit 82 = .ok (.ifCond .eq 11, 3) := by decide +kernel
theorem dX9_isLit_85 : decode cX9_isLit 85 = .ok (.aload_n 0, 1) := by decide +kernel
theorem dX9_isLit_86 : decode cX9_isLit 86 = .ok (.iconst 0, 1) := by decide +kernel
theorem dX9_isLit_87 : decode cX9_isLit 87 = .ok (.iload_n 1, 1) := by decide +kernel
theorem dX9_isLit_88 : decode cX9_isLit 88 = .ok (.invokestatic 92, 3) := by decide +kernel
theorem dX9_isLit_91 : decode cX9_isLit 91 = .ok (.iconst 0, 1) := by decide +kernel
theorem dX9_isLit_92 : decode cX9_isLit 92 = .ok (.ireturn, 1) := by decide +kernel
theorem dX9_isLit_93 : decode cX9_isLit 93 = .ok (.aload_n 0, 1) := by decide +kernel
theorem dX9_isLit_94 : decode cX9_isLit 94 = .ok (.iload_n 1, 1) := by decide +kernel
theorem dX9_isLit_95 : decode cX9_isLit 95 = .ok (.invokestatic 103, 3) := by decide +kernel
theorem dX9_isLit_98 : decode cX9_isLit 98 = .ok (.iconst 1, 1) := by decide +kernel
theorem dX9_isLit_99 : decode cX9_isLit 99 = .ok (.ireturn, 1) := by decide +kernel
theorem dX9_days_0 : decode cX9_days 0 = .ok (.aload_n 0, 1) := by decide +kernel
theorem dX9_days_1 : decode cX9_days 1 = .ok (.bipush 10, 2) := by decide +kernel
theorem dX9_days_3 : decode cX9_days 3 = .ok (.iconst 0, 1) := by decide +kernel
theorem dX9_days_4 : decode cX9_days 4 = .ok (.iastore, 1) := by decide +kernel
theorem dX9_days_5 : decode cX9_days 5 = .ok (.aload_n 0, 1) := by decide +kernel
theorem dX9_days_6 : decode cX9_days 6 = .ok (.iconst 1, 1) := by decide +kernel
theorem dX9_days_7 : decode cX9_days 7 = .ok (.invokestatic 85, 3) := by decide +kernel
theorem dX9_days_10 : decode cX9_days 10 = .ok (.istore_n 1, 1) := by decide +kernel
theorem dX9_days_11 : decode cX9_days 11 = .ok (.aload_n 0, 1) := by decide +kernel
theorem dX9_days_12 : decode cX9_days 12 = .ok (.aload_n 0, 1) := by decide +kernel
theorem dX9_days_13 : decode cX9_days 13 = .ok (.bipush 7, 2) := by decide +kernel
theorem dX9_days_15 : decode cX9_days 15 = .ok (.iaload, 1) := by decide +kernel
theorem dX9_days_16 : decode cX9_days 16 = .ok (.iconst 1, 1) := by decide +kernel
theorem dX9_days_17 : decode cX9_days 17 = .ok (.invokestatic 81, 3) := by decide +kernel
theorem dX9_days_20 : decode cX9_days 20 = .ok (.ifCond .ne 20, 3) := by decide +kernel
theorem dX9_days_23 : decode cX9_days 23 = .ok (.iload_n 1, 1) := by decide +kernel
theorem dX9_days_24 : decode cX9_days 24 = .ok (.bipush (-5), 2) := by decide +kernel
theorem dX9_days_26 : decode cX9_days 26 = .ok (.if_icmp .eq 14, 3) := by decide +kernel
theorem dX9_days_29 : decode cX9_days 29 = .ok (.aload_n 0, 1) := by decide +kernel
theorem dX9_days_30 : decode cX9_days 30 = .ok (.iload_n 1, 1) := by decide +kernel
theorem dX9_days_31 : decode cX9_days 31 = .ok (.invokestatic 100, 3) := by decide +kernel
theorem dX9_days_34 : decode cX9_days 34 = .ok (.aload_n 0, 1) := by decide +kernel
theorem dX9_days_35 : decode cX9_days 35 = .ok (.iconst 3, 1) := by decide +kernel
theorem dX9_days_36 : decode cX9_days 36 = .ok (.iload_n 1, 1) := by decide +kernel
theorem dX9_days_37 : decode cX9_days 37 = .ok (.invokestatic 92, 3) := by decide +kernel
theorem dX9_days_40 : decode cX9_days 40 = .ok (.return_, 1) := by decide +kernel
theorem dX9_lowest_0 : decode cX9_lowest 0 = .ok (.aload_n 0, 1) := by decide +kernel
theorem dX9_lowest_1 : decode cX9_lowest 1 = .ok (.bipush 41, 2) := by decide +kernel
theorem dX9_lowest_3 : decode cX9_lowest 3 = .ok (.iaload, 1) := by decide +kernel
theorem dX9_lowest_4 : decode cX9_lowest 4 = .ok (.ifCond .le 7, 3) := by decide +kernel
theorem dX9_lowest_7 : decode cX9_lowest 7 = .ok (.iconst 0, 1) := by decide +kernel
theorem dX9_lowest_8 : decode cX9_lowest 8 = .ok (.goto 27, 3) := by decide +kernel
theorem dX9_lowest_11 : decode cX9_lowest 11 = .ok (.aload_n 0, 1) := by decide +kernel
theorem dX9_lowest_12 : decode cX9_lowest 12 = .ok (.bipush 42, 2) := by decide +kernel
theorem dX9_lowest_14 : decode cX9_lowest 14 = .ok (.iaload, 1) := by decide +kernel
theorem dX9_lowest_15 : decode cX9_lowest 15 = .ok (.ifCond .le 7, 3) := by decide +kernel
theorem dX9_lowest_18 : decode cX9_lowest 18 = .ok (.iconst 1, 1) := by decide +kernel
theorem dX9_lowest_19 : decode cX9_lowest 19 = .ok (.goto 16, 3) := by decide +kernel
theorem dX9_lowest_22 : decode cX9_lowest 22 = .ok (.aload_n 0, 1) := by decide +kernel
theorem dX9_lowest_23 : decode cX9_lowest 23 = .ok (.bipush 43, 2) := by decide +kernel
theorem dX9_lowest_25 : decode cX9_lowest 25 = .ok (.iaload, 1) := by decide +kernel
theorem dX9_lowest_26 : decode cX9_lowest 26 = .ok (.ifCond .le 7, 3) := by decide +kernel
theorem dX9_lowest_29 : decode cX9_lowest 29 = .ok (.iconst 2, 1) := by decide +kernel
theorem dX9_lowest_30 : decode cX9_lowest 30 = .ok (.goto 5, 3) := by decide +kernel
theorem dX9_lowest_33 : decode cX9_lowest 33 = .ok (.bipush (-5), 2) := by decide +kernel
theorem dX9_lowest_35 : decode cX9_lowest 35 = .ok (.ireturn, 1) := by decide +kernel
theorem dX9_lands_0 : decode cX9_lands 0 = .ok (.aload_n 0, 1) := by decide +kernel
theorem dX9_lands_1 : decode cX9_lands 1 = .ok (.iload_n 1, 1) := by decide +kernel
theorem dX9_lands_2 : decode cX9_lands 2 = .ok (.iconst 1, 1) := by decide +kernel
theorem dX9_lands_3 : decode cX9_lands 3 = .ok (.iadd, 1) := by decide +kernel
theorem dX9_lands_4 : decode cX9_lands 4 = .ok (.iaload, 1) := by decide +kernel
theorem dX9_lands_5 : decode cX9_lands 5 = .ok (.istore_n 2, 1) := by decide +kernel
theorem dX9_lands_6 : decode cX9_lands 6 = .ok (.aload_n 0, 1) := by decide +kernel
theorem dX9_lands_7 : decode cX9_lands 7 = .ok (.bipush 41, 2) := by decide +kernel
theorem dX9_lands_9 : decode cX9_lands 9 = .ok (.iload_n 2, 1) := by decide +kernel
theorem dX9_lands_10 : decode cX9_lands 10 = .ok (.iadd, 1) := by decide +kernel
theorem dX9_lands_11 : decode cX9_lands 11 = .ok (.iaload, 1) := by decide +kernel
theorem dX9_lands_12 : decode cX9_lands 12 = .ok (.aload_n 0, 1) := by decide +kernel
theorem dX9_lands_13 : decode cX9_lands 13 = .ok (.iload_n 1, 1) := by decide +kernel
theorem dX9_lands_14 : decode cX9_lands 14 = .ok (.iconst 2, 1) := by decide +kernel
theorem dX9_lands_15 : decode cX9_lands 15 = .ok (.iadd, 1) := by decide +kernel
theorem dX9_lands_16 : decode cX9_lands 16 = .ok (.iaload, 1) := by decide +kernel
theorem dX9_lands_17 : decode cX9_lands 17 = .ok (.iadd, 1) := by decide +kernel
theorem dX9_lands_18 : decode cX9_lands 18 = .ok (.istore_n 3, 1) := by decide +kernel
theorem dX9_lands_19 : decode cX9_lands 19 = .ok (.aload_n 0, 1) := by decide +kernel
theorem dX9_lands_20 : decode cX9_lands 20 = .ok (.bipush 41, 2) := by decide +kernel
theorem dX9_lands_22 : decode cX9_lands 22 = .ok (.iload_n 2, 1) := by decide +kernel
theorem dX9_lands_23 : decode cX9_lands 23 = .ok (.iadd, 1) := by decide +kernel
theorem dX9_lands_24 : decode cX9_lands 24 = .ok (.iload_n 3, 1) := by decide +kernel
theorem dX9_lands_25 : decode cX9_lands 25 = .ok (.bipush 99, 2) := by decide +kernel
theorem dX9_lands_27 : decode cX9_lands 27 = .ok (.if_icmp .le 8, 3) := by decide +kernel
theorem dX9_lands_30 : decode cX9_lands 30 = .ok (.bipush 99, 2) := by decide +kernel
theorem dX9_lands_32 : decode cX9_lands 32 = .ok (.goto 4, 3) := by decide +kernel
theorem dX9_lands_35 : decode cX9_lands 35 = .ok (.iload_n 3, 1) := by decide +kernel
theorem dX9_lands_36 : decode cX9_lands 36 = .ok (.iastore, 1) := by decide +kernel
theorem dX9_lands_37 : decode cX9_lands 37 = .ok (.iconst 0, 1) := by decide +kernel
theorem dX9_lands_38 : decode cX9_lands 38 = .ok (.istore 4, 2) := by decide +kernel
theorem dX9_lands_40 : decode cX9_lands 40 = .ok (.iload 4, 2) := by decide +kernel
theorem dX9_lands_42 : decode cX9_lands 42 = .ok (.bipush 6, 2) := by decide +kernel
theorem dX9_lands_44 : decode cX9_lands 44 = .ok (.if_icmp .ge 75, 3) := by decide +kernel
theorem dX9_lands_47 : decode cX9_lands 47 = .ok (.aload_n 0, 1) := by decide +kernel
theorem dX9_lands_48 : decode cX9_lands 48 = .ok (.bipush 10, 2) := by decide +kernel
theorem dX9_lands_50 : decode cX9_lands 50 = .ok (.iaload, 1) := by decide +kernel
theorem dX9_lands_51 : decode cX9_lands 51 = .ok (.iconst 1, 1) := by decide +kernel
theorem dX9_lands_52 : decode cX9_lands 52 = .ok (.if_icmp .ne 16, 3) := by decide +kernel
theorem dX9_lands_55 : decode cX9_lands 55 = .ok (.iload 4, 2) := by decide +kernel
theorem dX9_lands_57 : decode cX9_lands 57 = .ok (.aload_n 0, 1) := by decide +kernel
theorem dX9_lands_58 : decode cX9_lands 58 = .ok (.bipush 7, 2) := by decide +kernel
theorem dX9_lands_60 : decode cX9_lands 60 = .ok (.iaload, 1) := by decide +kernel
theorem dX9_lands_61 : decode cX9_lands 61 = .ok (.if_icmp .ne 7, 3) := by decide +kernel
theorem dX9_lands_64 : decode cX9_lands 64 = .ok (.iconst 1, 1) := by decide +kernel
theorem dX9_lands_65 : decode cX9_lands 65 = .ok (.goto 4, 3) := by decide +kernel
theorem dX9_lands_68 : decode cX9_lands 68 = .ok (.iconst 0, 1) := by decide +kernel
theorem dX9_lands_69 : decode cX9_lands 69 = .ok (.istore 5, 2) := by decide +kernel
theorem dX9_lands_71 : decode cX9_lands 71 = .ok (.aload_n 0, 1) := by decide +kernel
theorem dX9_lands_72 : decode cX9_lands 72 = .ok (.iload 4, 2) := by decide +kernel
theorem dX9_lands_74 : decode cX9_lands 74 = .ok (.invokestatic 78, 3) := by decide +kernel
theorem dX9_lands_77 : decode cX9_lands 77 = .ok (.ifCond .eq 36, 3) := by decide +kernel
theorem dX9_lands_80 : decode cX9_lands 80 = .ok (.iload 5, 2) := by decide +kernel
theorem dX9_lands_82 : decode cX9_lands 82 = .ok (.ifCond .ne 31, 3) := by decide +kernel
theorem dX9_lands_85 : decode cX9_lands 85 = .ok (.aload_n 0, 1) := by decide +kernel
theorem dX9_lands_86 : decode cX9_lands 86 = .ok (.iload 4, 2) := by decide +kernel
theorem dX9_lands_88 : decode cX9_lands 88 = .ok (.aload_n 0, 1) := by decide +kernel
theorem dX9_lands_89 : decode cX9_lands 89 = .ok (.bipush 6, 2) := by decide +kernel
theorem dX9_lands_91 : decode cX9_lands 91 = .ok (.iaload, 1) := by decide +kernel
theorem dX9_lands_92 : decode cX9_lands 92 = .ok (.iconst 1, 1) := by decide +kernel
theorem dX9_lands_93 : decode cX9_lands 93 = .ok (.if_icmp .ne 7, 3) := by decide +kernel
theorem dX9_lands_96 : decode cX9_lands 96 = .ok (.iconst 1, 1) := by decide +kernel
theorem dX9_lands_97 : decode cX9_lands 97 = .ok (.goto 4, 3) := by decide +kernel
theorem dX9_lands_100 : decode cX9_lands 100 = .ok (.iconst 0, 1) := by decide +kernel
theorem dX9_lands_101 : decode cX9_lands 101 = .ok (.invokestatic 81, 3) := by decide +kernel
theorem dX9_lands_104 : decode cX9_lands 104 = .ok (.ifCond .ne 9, 3) := by decide +kernel
theorem dX9_lands_107 : decode cX9_lands 107 = .ok (.aload_n 0, 1) := by decide +kernel
theorem dX9_lands_108 : decode cX9_lands 108 = .ok (.iload 4, 2) := by decide +kernel
theorem dX9_lands_110 : decode cX9_lands 110 = .ok (.invokestatic 29, 3) := by decide +kernel
theorem dX9_lands_113 : decode cX9_lands 113 = .ok (.iinc 4 1, 3) := by decide +kernel
theorem dX9_lands_116 : decode cX9_lands 116 = .ok (.goto (-76), 3) := by decide +kernel
theorem dX9_lands_119 : decode cX9_lands 119 = .ok (.iconst 0, 1) := by decide +kernel
theorem dX9_lands_120 : decode cX9_lands 120 = .ok (.istore 4, 2) := by decide +kernel
theorem dX9_lands_122 : decode cX9_lands 122 = .ok (.iconst 0, 1) := by decide +kernel
theorem dX9_lands_123 : decode cX9_lands 123 = .ok (.istore 5, 2) := by decide +kernel
theorem dX9_lands_125 : decode cX9_lands 125 = .ok (.iload 5, 2) := by decide +kernel
theorem dX9_lands_127 : decode cX9_lands 127 = .ok (.bipush 6, 2) := by decide +kernel
theorem dX9_lands_129 : decode cX9_lands 129 = .ok (.if_icmp .ge 55, 3) := by decide +kernel
theorem dX9_lands_132 : decode cX9_lands 132 = .ok (.aload_n 0, 1) := by decide +kernel
theorem dX9_lands_133 : decode cX9_lands 133 = .ok (.invokestatic 106, 3) := by decide +kernel
theorem dX9_lands_136 : decode cX9_lands 136 = .ok (.istore 6, 2) := by decide +kernel
theorem dX9_lands_138 : decode cX9_lands 138 = .ok (.aload_n 0, 1) := by decide +kernel
theorem dX9_lands_139 : decode cX9_lands 139 = .ok (.iload 5, 2) := by decide +kernel
theorem dX9_lands_141 : decode cX9_lands 141 = .ok (.invokestatic 78, 3) := by decide +kernel
theorem dX9_lands_144 : decode cX9_lands 144 = .ok (.ifCond .ne 34, 3) := by decide +kernel
theorem dX9_lands_147 : decode cX9_lands 147 = .ok (.iload 6, 2) := by decide +kernel
theorem dX9_lands_149 : decode cX9_lands 149 = .ok (.bipush (-5), 2) := by decide +kernel
theorem dX9_lands_151 : decode cX9_lands 151 = .ok (.if_icmp .eq 27, 3) := by decide +kernel
theorem dX9_lands_154 : decode cX9_lands 154 = .ok (.aload_n 0, 1) := by decide +kernel
theorem dX9_lands_155 : decode cX9_lands 155 = .ok (.iload 5, 2) := by decide +kernel
theorem dX9_lands_157 : decode cX9_lands 157 = .ok (.iload 6, 2) := by decide +kernel
theorem dX9_lands_159 : decode cX9_lands 159 = .ok (.bipush 100, 2) := by decide +kernel
theorem dX9_lands_161 : decode cX9_lands 161 = .ok (.invokestatic 109, 3) := by decide +kernel
theorem dX9_lands_164 : decode cX9_lands 164 = .ok (.aload_n 0, 1) := by decide +kernel
theorem dX9_lands_165 : decode cX9_lands 165 = .ok (.bipush 41, 2) := by decide +kernel
theorem dX9_lands_167 : decode cX9_lands 167 = .ok (.iload 6, 2) := by decide +kernel
theorem dX9_lands_169 : decode cX9_lands 169 = .ok (.iadd, 1) := by decide +kernel
theorem dX9_lands_170 : decode cX9_lands 170 = .ok (.dup2, 1) := by decide +kernel
theorem dX9_lands_171 : decode cX9_lands 171 = .ok (.iaload, 1) := by decide +kernel
theorem dX9_lands_172 : decode cX9_lands 172 = .ok (.iconst 1, 1) := by decide +kernel
theorem dX9_lands_173 : decode cX9_lands 173 = .ok (.isub, 1) := by decide +kernel
theorem dX9_lands_174 : decode cX9_lands 174 = .ok (.iastore, 1) := by decide +kernel
theorem dX9_lands_175 : decode cX9_lands 175 = .ok (.iinc 4 1, 3) := by decide +kernel
theorem dX9_lands_178 : decode cX9_lands 178 = .ok (.iinc 5 1, 3) := by decide +kernel
theorem dX9_lands_181 : decode cX9_lands 181 = .ok (.goto (-56), 3) := by decide +kernel
theorem dX9_lands_184 : decode cX9_lands 184 = .ok (.aload_n 0, 1) := by decide +kernel
theorem dX9_lands_185 : decode cX9_lands 185 = .ok (.bipush 48, 2) := by decide +kernel
theorem dX9_lands_187 : decode cX9_lands 187 = .ok (.dup2, 1) := by decide +kernel
theorem dX9_lands_188 : decode cX9_lands 188 = .ok (.iaload, 1) := by decide +kernel
theorem dX9_lands_189 : decode cX9_lands 189 = .ok (.iconst 1, 1) := by decide +kernel
theorem dX9_lands_190 : decode cX9_lands 190 = .ok (.iadd, 1) := by decide +kernel
theorem dX9_lands_191 : decode cX9_lands 191 = .ok (.iastore, 1) := by decide +kernel
theorem dX9_lands_192 : decode cX9_lands 192 = .ok (.aload_n 0, 1) := by decide +kernel
theorem dX9_lands_193 : decode cX9_lands 193 = .ok (.iconst 4, 1) := by decide +kernel
theorem dX9_lands_194 : decode cX9_lands 194 = .ok (.iload 4, 2) := by decide +kernel
theorem dX9_lands_196 : decode cX9_lands 196 = .ok (.invokestatic 92, 3) := by decide +kernel
theorem dX9_lands_199 : decode cX9_lands 199 = .ok (.return_, 1) := by decide +kernel
theorem dX9_passes_0 : decode cX9_passes 0 = .ok (.aload_n 0, 1) := by decide +kernel
theorem dX9_passes_1 : decode cX9_passes 1 = .ok (.bipush 8, 2) := by decide +kernel
theorem dX9_passes_3 : decode cX9_passes 3 = .ok (.iaload, 1) := by decide +kernel
theorem dX9_passes_4 : decode cX9_passes 4 = .ok (.bipush (-5), 2) := by decide +kernel
theorem dX9_passes_6 : decode cX9_passes 6 = .ok (.if_icmp .eq 32, 3) := by decide +kernel
theorem dX9_passes_9 : decode cX9_passes 9 = .ok (.aload_n 0, 1) := by decide +kernel
theorem dX9_passes_10 : decode cX9_passes 10 = .ok (.bipush 9, 2) := by decide +kernel
theorem dX9_passes_12 : decode cX9_passes 12 = .ok (.dup2, 1) := by decide +kernel
theorem dX9_passes_13 : decode cX9_passes 13 = .ok (.iaload, 1) := by decide +kernel
theorem dX9_passes_14 : decode cX9_passes 14 = .ok (.iconst 1, 1) := by decide +kernel
theorem dX9_passes_15 : decode cX9_passes 15 = .ok (.isub, 1) := by decide +kernel
theorem dX9_passes_16 : decode cX9_passes 16 = .ok (.iastore, 1) := by decide +kernel
theorem dX9_passes_17 : decode cX9_passes 17 = .ok (.aload_n 0, 1) := by decide +kernel
theorem dX9_passes_18 : decode cX9_passes 18 = .ok (.bipush 9, 2) := by decide +kernel
theorem dX9_passes_20 : decode cX9_passes 20 = .ok (.iaload, 1) := by decide +kernel
theorem dX9_passes_21 : decode cX9_passes 21 = .ok (.ifCond .ne 17, 3) := by decide +kernel
theorem dX9_passes_24 : decode cX9_passes 24 = .ok (.aload_n 0, 1) := by decide +kernel
theorem dX9_passes_25 : decode cX9_passes 25 = .ok (.bipush 7, 2) := by decide +kernel
theorem dX9_passes_27 : decode cX9_passes 27 = .ok (.aload_n 0, 1) := by decide +kernel
theorem dX9_passes_28 : decode cX9_passes 28 = .ok (.bipush 8, 2) := by decide +kernel
theorem dX9_passes_30 : decode cX9_passes 30 = .ok (.iaload, 1) := by decide +kernel
theorem dX9_passes_31 : decode cX9_passes 31 = .ok (.iastore, 1) := by decide +kernel
theorem dX9_passes_32 : decode cX9_passes 32 = .ok (.aload_n 0, 1) := by decide +kernel
theorem dX9_passes_33 : decode cX9_passes 33 = .ok (.bipush 8, 2) := by decide +kernel
theorem dX9_passes_35 : decode cX9_passes 35 = .ok (.bipush (-5), 2) := by decide +kernel
theorem dX9_passes_37 : decode cX9_passes 37 = .ok (.iastore, 1) := by decide +kernel
theorem dX9_passes_38 : decode cX9_passes 38 = .ok (.aload_n 0, 1) := by decide +kernel
theorem dX9_passes_39 : decode cX9_passes 39 = .ok (.invokestatic 112, 3) := by decide +kernel
theorem dX9_passes_42 : decode cX9_passes 42 = .ok (.istore_n 2, 1) := by decide +kernel
theorem dX9_passes_43 : decode cX9_passes 43 = .ok (.aload_n 0, 1) := by decide +kernel
theorem dX9_passes_44 : decode cX9_passes 44 = .ok (.bipush 8, 2) := by decide +kernel
theorem dX9_passes_46 : decode cX9_passes 46 = .ok (.iaload, 1) := by decide +kernel
theorem dX9_passes_47 : decode cX9_passes 47 = .ok (.bipush (-5), 2) := by decide +kernel
theorem dX9_passes_49 : decode cX9_passes 49 = .ok (.if_icmp .ne 7, 3) := by decide +kernel
theorem dX9_passes_52 : decode cX9_passes 52 = .ok (.iconst 1, 1) := by decide +kernel
theorem dX9_passes_53 : decode cX9_passes 53 = .ok (.goto 4, 3) := by decide +kernel
theorem dX9_passes_56 : decode cX9_passes 56 = .ok (.iconst 0, 1) := by decide +kernel
theorem dX9_passes_57 : decode cX9_passes 57 = .ok (.istore_n 3, 1) := by decide +kernel
theorem dX9_passes_58 : decode cX9_passes 58 = .ok (.iload_n 2, 1) := by decide +kernel
theorem dX9_passes_59 : decode cX9_passes 59 = .ok (.ifCond .eq 18, 3) := by decide +kernel
theorem dX9_passes_62 : decode cX9_passes 62 = .ok (.iload_n 3, 1) := by decide +kernel
theorem dX9_passes_63 : decode cX9_passes 63 = .ok (.ifCond .eq 14, 3) := by decide +kernel
theorem dX9_passes_66 : decode cX9_passes 66 = .ok (.aload_n 0, 1) := by decide +kernel
theorem dX9_passes_67 : decode cX9_passes 67 = .ok (.invokestatic 116, 3) := by decide +kernel
theorem dX9_passes_70 : decode cX9_passes 70 = .ok (.ifCond .eq 7, 3) := by decide +kernel
theorem dX9_passes_73 : decode cX9_passes 73 = .ok (.iconst 1, 1) := by decide +kernel
theorem dX9_passes_74 : decode cX9_passes 74 = .ok (.goto 4, 3) := by decide +kernel
theorem dX9_passes_77 : decode cX9_passes 77 = .ok (.iconst 0, 1) := by decide +kernel
theorem dX9_passes_78 : decode cX9_passes 78 = .ok (.istore 4, 2) := by decide +kernel
theorem dX9_passes_80 : decode cX9_passes 80 = .ok (.iload_n 3, 1) := by decide +kernel
theorem dX9_passes_81 : decode cX9_passes 81 = .ok (.ifCond .eq 11, 3) := by decide +kernel
theorem dX9_passes_84 : decode cX9_passes 84 = .ok (.iload_n 2, 1) := by decide +kernel
theorem dX9_passes_85 : decode cX9_passes 85 = .ok (.ifCond .ne 7, 3) := by decide +kernel
theorem dX9_passes_88 : decode cX9_passes 88 = .ok (.aload_n 0, 1) := by decide +kernel
theorem dX9_passes_89 : decode cX9_passes 89 = .ok (.invokestatic 119, 3) := by decide +kernel
theorem dX9_passes_92 : decode cX9_passes 92 = .ok (.iload_n 2, 1) := by decide +kernel
theorem dX9_passes_93 : decode cX9_passes 93 = .ok (.ifCond .eq 12, 3) := by decide +kernel
theorem dX9_passes_96 : decode cX9_passes 96 = .ok (.iload 4, 2) := by decide +kernel
theorem dX9_passes_98 : decode cX9_passes 98 = .ok (.ifCond .ne 7, 3) := by decide +kernel
theorem dX9_passes_101 : decode cX9_passes 101 = .ok (.iconst 1, 1) := by decide +kernel
theorem dX9_passes_102 : decode cX9_passes 102 = .ok (.goto 4, 3) := by decide +kernel
theorem dX9_passes_105 : decode cX9_passes 105 = .ok (.iconst 0, 1) := by decide +kernel
theorem dX9_passes_106 : decode cX9_passes 106 = .ok (.istore 5, 2) := by decide +kernel
theorem dX9_passes_108 : decode cX9_passes 108 = .ok (.aload_n 0, 1) := by decide +kernel
theorem dX9_passes_109 : decode cX9_passes 109 = .ok (.bipush 44, 2) := by decide +kernel
theorem dX9_passes_111 : decode cX9_passes 111 = .ok (.dup2, 1) := by decide +kernel
theorem dX9_passes_112 : decode cX9_passes 112 = .ok (.iaload, 1) := by decide +kernel
theorem dX9_passes_113 : decode cX9_passes 113 = .ok (.iload 5, 2) := by decide +kernel
theorem dX9_passes_115 : decode cX9_passes 115 = .ok (.ifCond .eq 7, 3) := by decide +kernel
theorem dX9_passes_118 : decode cX9_passes 118 = .ok (.iconst 1, 1) := by decide +kernel
theorem dX9_passes_119 : decode cX9_passes 119 = .ok (.goto 4, 3) := by decide +kernel
theorem dX9_passes_122 : decode cX9_passes 122 = .ok (.iconst 0, 1) := by decide +kernel
theorem dX9_passes_123 : decode cX9_passes 123 = .ok (.iadd, 1) := by decide +kernel
theorem dX9_passes_124 : decode cX9_passes 124 = .ok (.iastore, 1) := by decide +kernel
theorem dX9_passes_125 : decode cX9_passes 125 = .ok (.aload_n 0, 1) := by decide +kernel
theorem dX9_passes_126 : decode cX9_passes 126 = .ok (.bipush 45, 2) := by decide +kernel
theorem dX9_passes_128 : decode cX9_passes 128 = .ok (.iload 5, 2) := by decide +kernel
theorem dX9_passes_130 : decode cX9_passes 130 = .ok (.ifCond .eq 12, 3) := by decide +kernel
theorem dX9_passes_133 : decode cX9_passes 133 = .ok (.aload_n 0, 1) := by decide +kernel
theorem dX9_passes_134 : decode cX9_passes 134 = .ok (.bipush 45, 2) := by decide +kernel
theorem dX9_passes_136 : decode cX9_passes 136 = .ok (.iaload, 1) := by decide +kernel
theorem dX9_passes_137 : decode cX9_passes 137 = .ok (.iconst 1, 1) := by decide +kernel
theorem dX9_passes_138 : decode cX9_passes 138 = .ok (.iadd, 1) := by decide +kernel
theorem dX9_passes_139 : decode cX9_passes 139 = .ok (.goto 15, 3) := by decide +kernel
theorem dX9_passes_142 : decode cX9_passes 142 = .ok (.iload_n 2, 1) := by decide +kernel
theorem dX9_passes_143 : decode cX9_passes 143 = .ok (.ifCond .eq 7, 3) := by decide +kernel
theorem dX9_passes_146 : decode cX9_passes 146 = .ok (.iconst 0, 1) := by decide +kernel
theorem dX9_passes_147 : decode cX9_passes 147 = .ok (.goto 7, 3) := by decide +kernel
theorem dX9_passes_150 : decode cX9_passes 150 = .ok (.aload_n 0, 1) := by decide +kernel
theorem dX9_passes_151 : decode cX9_passes 151 = .ok (.bipush 45, 2) := by decide +kernel
theorem dX9_passes_153 : decode cX9_passes 153 = .ok (.iaload, 1) := by decide +kernel
theorem dX9_passes_154 : decode cX9_passes 154 = .ok (.iastore, 1) := by decide +kernel
theorem dX9_passes_155 : decode cX9_passes 155 = .ok (.aload_n 0, 1) := by decide +kernel
theorem dX9_passes_156 : decode cX9_passes 156 = .ok (.bipush 46, 2) := by decide +kernel
theorem dX9_passes_158 : decode cX9_passes 158 = .ok (.aload_n 0, 1) := by decide +kernel
theorem dX9_passes_159 : decode cX9_passes 159 = .ok (.bipush 45, 2) := by decide +kernel
theorem dX9_passes_161 : decode cX9_passes 161 = .ok (.iaload, 1) := by decide +kernel
theorem dX9_passes_162 : decode cX9_passes 162 = .ok (.aload_n 0, 1) := by decide +kernel
theorem dX9_passes_163 : decode cX9_passes 163 = .ok (.bipush 46, 2) := by decide +kernel
theorem dX9_passes_165 : decode cX9_passes 165 = .ok (.iaload, 1) := by decide +kernel
theorem dX9_passes_166 : decode cX9_passes 166 = .ok (.if_icmp .le 10, 3) := by decide +kernel
theorem dX9_passes_169 : decode cX9_passes 169 = .ok (.aload_n 0, 1) := by decide +kernel
theorem dX9_passes_170 : decode cX9_passes 170 = .ok (.bipush 45, 2) := by decide +kernel
theorem dX9_passes_172 : decode cX9_passes 172 = .ok (.iaload, 1) := by decide +kernel
theorem dX9_passes_173 : decode cX9_passes 173 = .ok (.goto 7, 3) := by decide +kernel
theorem dX9_passes_176 : decode cX9_passes 176 = .ok (.aload_n 0, 1) := by decide +kernel
theorem dX9_passes_177 : decode cX9_passes 177 = .ok (.bipush 46, 2) := by decide +kernel
theorem dX9_passes_179 : decode cX9_passes 179 = .ok (.iaload, 1) := by decide +kernel
theorem dX9_passes_180 : decode cX9_passes 180 = .ok (.iastore, 1) := by decide +kernel
theorem dX9_passes_181 : decode cX9_passes 181 = .ok (.iconst 0, 1) := by decide +kernel
theorem dX9_passes_182 : decode cX9_passes 182 = .ok (.istore 6, 2) := by decide +kernel
theorem dX9_passes_184 : decode cX9_passes 184 = .ok (.iload 6, 2) := by decide +kernel
theorem dX9_passes_186 : decode cX9_passes 186 = .ok (.aload_n 0, 1) := by decide +kernel
theorem dX9_passes_187 : decode cX9_passes 187 = .ok (.bipush 49, 2) := by decide +kernel
theorem dX9_passes_189 : decode cX9_passes 189 = .ok (.iaload, 1) := by decide +kernel
theorem dX9_passes_190 : decode cX9_passes 190 = .ok (.if_icmp .ge 39, 3) := by decide +kernel
theorem dX9_passes_193 : decode cX9_passes 193 = .ok (.iload_n 1, 1) := by decide +kernel
theorem dX9_passes_194 : decode cX9_passes 194 = .ok (.ifCond .eq 35, 3) := by decide +kernel
theorem dX9_passes_197 : decode cX9_passes 197 = .ok (.aload_n 0, 1) := by decide +kernel
theorem dX9_passes_198 : decode cX9_passes 198 = .ok (.bipush 50, 2) := by decide +kernel
theorem dX9_passes_200 : decode cX9_passes 200 = .ok (.iconst 3, 1) := by decide +kernel
theorem dX9_passes_201 : decode cX9_passes 201 = .ok (.iload 6, 2) := by decide +kernel
theorem dX9_passes_203 : decode cX9_passes 203 = .ok (.imul, 1) := by decide +kernel
theorem dX9_passes_204 : decode cX9_passes 204 = .ok (.iadd, 1) := by decide +kernel
theorem dX9_passes_205 : decode cX9_passes 205 = .ok (.iaload, 1) := by decide +kernel
theorem dX9_passes_206 : decode cX9_passes 206 = .ok (.aload_n 0, 1) := by decide +kernel
theorem dX9_passes_207 : decode cX9_passes 207 = .ok (.iconst 0, 1) := by decide +kernel
theorem dX9_passes_208 : decode cX9_passes 208 = .ok (.iaload, 1) := by decide +kernel
theorem dX9_passes_209 : decode cX9_passes 209 = .ok (.if_icmp .ne 14, 3) := by decide +kernel
theorem dX9_passes_212 : decode cX9_passes 212 = .ok (.aload_n 0, 1) := by decide +kernel
theorem dX9_passes_213 : decode cX9_passes 213 = .ok (.bipush 50, 2) := by decide +kernel
theorem dX9_passes_215 : decode cX9_passes 215 = .ok (.iconst 3, 1) := by decide +kernel
theorem dX9_passes_216 : decode cX9_passes 216 = .ok (.iload 6, 2) := by decide +kernel
theorem dX9_passes_218 : decode cX9_passes 218 = .ok (.imul, 1) := by decide +kernel
theorem dX9_passes_219 : decode cX9_passes 219 = .ok (.iadd, 1) := by decide +kernel
theorem dX9_passes_220 : decode cX9_passes 220 = .ok (.invokestatic 123, 3) := by decide +kernel
theorem dX9_passes_223 : decode cX9_passes 223 = .ok (.iinc 6 1, 3) := by decide +kernel
theorem dX9_passes_226 : decode cX9_passes 226 = .ok (.goto (-42), 3) := by decide +kernel
theorem dX9_passes_229 : decode cX9_passes 229 = .ok (.aload_n 0, 1) := by decide +kernel
theorem dX9_passes_230 : decode cX9_passes 230 = .ok (.iconst 0, 1) := by decide +kernel
theorem dX9_passes_231 : decode cX9_passes 231 = .ok (.dup2, 1) := by decide +kernel
theorem dX9_passes_232 : decode cX9_passes 232 = .ok (.iaload, 1) := by decide +kernel
theorem dX9_passes_233 : decode cX9_passes 233 = .ok (.iconst 1, 1) := by decide +kernel
theorem dX9_passes_234 : decode cX9_passes 234 = .ok (.iadd, 1) := by decide +kernel
theorem dX9_passes_235 : decode cX9_passes 235 = .ok (.iastore, 1) := by decide +kernel
theorem dX9_passes_236 : decode cX9_passes 236 = .ok (.iload 5, 2) := by decide +kernel
theorem dX9_passes_238 : decode cX9_passes 238 = .ok (.ireturn, 1) := by decide +kernel
theorem dX9_isFor_0 : decode cX9_isFor 0 = .ok (.iload_n 0, 1) := by decide +kernel
theorem dX9_isFor_1 : decode cX9_isFor 1 = .ok (.tableswitch 43 0 2 #[27, 36, 36], 27) := by decide +kernel
theorem dX9_isFor_28 : decode cX9_isFor 28 = .ok (.iload_n 1, 1) := by decide +kernel
theorem dX9_isFor_29 : decode cX9_isFor 29 = .ok (.bipush 75, 2) := by decide +kernel
theorem dX9_isFor_31 : decode cX9_isFor 31 = .ok (.bipush 99, 2) := by decide +kernel
theorem dX9_isFor_33 : decode cX9_isFor 33 = .ok (.invokestatic 33, 3) := by decide +kernel
theorem dX9_isFor_36 : decode cX9_isFor 36 = .ok (.ireturn, 1) := by decide +kernel
theorem dX9_isFor_37 : decode cX9_isFor 37 = .ok (.iload_n 1, 1) := by decide +kernel
theorem dX9_isFor_38 : decode cX9_isFor 38 = .ok (.iconst 1, 1) := by decide +kernel
theorem dX9_isFor_39 : decode cX9_isFor 39 = .ok (.iconst 5, 1) := by decide +kernel
theorem dX9_isFor_40 : decode cX9_isFor 40 = .ok (.invokestatic 33, 3) := by decide +kernel
theorem dX9_isFor_43 : decode cX9_isFor 43 = .ok (.ireturn, 1) := by decide +kernel
theorem dX9_isFor_44 : decode cX9_isFor 44 = .ok (.iload_n 1, 1) := by decide +kernel
theorem dX9_isFor_45 : decode cX9_isFor 45 = .ok (.iconst 0, 1) := by decide +kernel
theorem dX9_isFor_46 : decode cX9_isFor 46 = .ok (.iconst 1, 1) := by decide +kernel
theorem dX9_isFor_47 : decode cX9_isFor 47 = .ok (.invokestatic 33, 3) := by decide +kernel
theorem dX9_isFor_50 : decode cX9_isFor 50 = .ok (.ireturn, 1) := by decide +kernel
theorem dX9_set_0 : decode cX9_set 0 = .ok (.iload_n 1, 1) := by decide +kernel
theorem dX9_set_1 : decode cX9_set 1 = .ok (.iconst 0, 1) := by decide +kernel
theorem dX9_set_2 : decode cX9_set 2 = .ok (.iconst 3, 1) := by decide +kernel
theorem dX9_set_3 : decode cX9_set 3 = .ok (.invokestatic 33, 3) := by decide +kernel
theorem dX9_set_6 : decode cX9_set 6 = .ok (.ifCond .ne 5, 3) := by decide +kernel
theorem dX9_set_9 : decode cX9_set 9 = .ok (.iconst (-1), 1) := by decide +kernel
theorem dX9_set_10 : decode cX9_set 10 = .ok (.ireturn, 1) := by decide +kernel
theorem dX9_set_11 : decode cX9_set 11 = .ok (.iload_n 1, 1) := by decide +kernel
theorem dX9_set_12 : decode cX9_set 12 = .ok (.iload_n 2, 1) := by decide +kernel
theorem dX9_set_13 : decode cX9_set 13 = .ok (.invokestatic 126, 3) := by decide +kernel
theorem dX9_set_16 : decode cX9_set 16 = .ok (.ifCond .ne 6, 3) := by decide +kernel
theorem dX9_set_19 : decode cX9_set 19 = .ok (.bipush (-2), 2) := by decide +kernel
theorem dX9_set_21 : decode cX9_set 21 = .ok (.ireturn, 1) := by decide +kernel
theorem dX9_set_22 : decode cX9_set 22 = .ok (.aload_n 0, 1) := by decide +kernel
theorem dX9_set_23 : decode cX9_set 23 = .ok (.getfield 7, 3) := by decide +kernel
theorem dX9_set_26 : decode cX9_set 26 = .ok (.iconst 3, 1) := by decide +kernel
theorem dX9_set_27 : decode cX9_set 27 = .ok (.iload_n 1, 1) := by decide +kernel
theorem dX9_set_28 : decode cX9_set 28 = .ok (.iadd, 1) := by decide +kernel
theorem dX9_set_29 : decode cX9_set 29 = .ok (.iaload, 1) := by decide +kernel
theorem dX9_set_30 : decode cX9_set 30 = .ok (.istore_n 3, 1) := by decide +kernel
theorem dX9_set_31 : decode cX9_set 31 = .ok (.iload_n 3, 1) := by decide +kernel
theorem dX9_set_32 : decode cX9_set 32 = .ok (.iload_n 2, 1) := by decide +kernel
theorem dX9_set_33 : decode cX9_set 33 = .ok (.if_icmp .ne 6, 3) := by decide +kernel
theorem dX9_set_36 : decode cX9_set 36 = .ok (.bipush (-5), 2) := by decide +kernel
theorem dX9_set_38 : decode cX9_set 38 = .ok (.ireturn, 1) := by decide +kernel
theorem dX9_set_39 : decode cX9_set 39 = .ok (.aload_n 0, 1) := by decide +kernel
theorem dX9_set_40 : decode cX9_set 40 = .ok (.invokevirtual 49, 3) := by decide +kernel
theorem dX9_set_43 : decode cX9_set 43 = .ok (.aload_n 0, 1) := by decide +kernel
theorem dX9_set_44 : decode cX9_set 44 = .ok (.getfield 7, 3) := by decide +kernel
theorem dX9_set_47 : decode cX9_set 47 = .ok (.iconst 3, 1) := by decide +kernel
theorem dX9_set_48 : decode cX9_set 48 = .ok (.iload_n 1, 1) := by decide +kernel
theorem dX9_set_49 : decode cX9_set 49 = .ok (.iadd, 1) := by decide +kernel
theorem dX9_set_50 : decode cX9_set 50 = .ok (.iload_n 2, 1) := by decide +kernel
theorem dX9_set_51 : decode cX9_set 51 = .ok (.iastore, 1) := by decide +kernel
theorem dX9_set_52 : decode cX9_set 52 = .ok (.iload_n 3, 1) := by decide +kernel
theorem dX9_set_53 : decode cX9_set 53 = .ok (.ireturn, 1) := by decide +kernel
theorem dX9_setNight_0 : decode cX9_setNight 0 = .ok (.iload_n 1, 1) := by decide +kernel
theorem dX9_setNight_1 : decode cX9_setNight 1 = .ok (.iconst 0, 1) := by decide +kernel
theorem dX9_setNight_2 : decode cX9_setNight 2 = .ok (.bipush 47, 2) := by decide +kernel
theorem dX9_setNight_4 : decode cX9_setNight 4 = .ok (.invokestatic 33, 3) := by decide +kernel
theorem dX9_setNight_7 : decode cX9_setNight 7 = .ok (.ifCond .eq 18, 3) := by decide +kernel
theorem dX9_setNight_10 : decode cX9_setNight 10 = .ok (.iload_n 2, 1) := by decide +kernel
theorem dX9_setNight_11 : decode cX9_setNight 11 = .ok (.iconst 0, 1) := by decide +kernel
theorem dX9_setNight_12 : decode cX9_setNight 12 = .ok (.bipush 47, 2) := by decide +kernel
theorem dX9_setNight_14 : decode cX9_setNight 14 = .ok (.invokestatic 33, 3) := by decide +kernel
theorem dX9_setNight_17 : decode cX9_setNight 17 = .ok (.ifCond .eq 8, 3) := by decide +kernel
theorem dX9_setNight_20 : decode cX9_setNight 20 = .ok (.iload_n 1, 1) := by decide +kernel
theorem dX9_setNight_21 : decode cX9_setNight 21 = .ok (.iload_n 2, 1) := by decide +kernel
theorem dX9_setNight_22 : decode cX9_setNight 22 = .ok (.if_icmp .ne 6, 3) := by decide +kernel
theorem dX9_setNight_25 : decode cX9_setNight 25 = .ok (.bipush (-2), 2) := by decide +kernel
theorem dX9_setNight_27 : decode cX9_setNight 27 = .ok (.ireturn, 1) := by decide +kernel
theorem dX9_setNight_28 : decode cX9_setNight 28 = .ok (.aload_n 0, 1) := by decide +kernel
theorem dX9_setNight_29 : decode cX9_setNight 29 = .ok (.getfield 7, 3) := by decide +kernel
theorem dX9_setNight_32 : decode cX9_setNight 32 = .ok (.iconst 1, 1) := by decide +kernel
theorem dX9_setNight_33 : decode cX9_setNight 33 = .ok (.iaload, 1) := by decide +kernel
theorem dX9_setNight_34 : decode cX9_setNight 34 = .ok (.iload_n 1, 1) := by decide +kernel
theorem dX9_setNight_35 : decode cX9_setNight 35 = .ok (.if_icmp .ne 16, 3) := by decide +kernel
theorem dX9_setNight_38 : decode cX9_setNight 38 = .ok (.aload_n 0, 1) := by decide +kernel
theorem dX9_setNight_39 : decode cX9_setNight 39 = .ok (.getfield 7, 3) := by decide +kernel
theorem dX9_setNight_42 : decode cX9_setNight 42 = .ok (.iconst 2, 1) := by decide +kernel
theorem dX9_setNight_43 : decode cX9_setNight 43 = .ok (.iaload, 1) := by decide +kernel
theorem dX9_setNight_44 : decode cX9_setNight 44 = .ok (.iload_n 2, 1) := by decide +kernel
theorem dX9_setNight_45 : decode cX9_setNight 45 = .ok (.if_icmp .ne 6, 3) := by decide +kernel
theorem dX9_setNight_48 : decode cX9_setNight 48 = .ok (.bipush (-5), 2) := by decide +kernel
theorem dX9_setNight_50 : decode cX9_setNight 50 = .ok (.ireturn, 1) := by decide +kernel
theorem dX9_setNight_51 : decode cX9_setNight 51 = .ok (.aload_n 0, 1) := by decide +kernel
theorem dX9_setNight_52 : decode cX9_setNight 52 = .ok (.invokevirtual 49, 3) := by decide +kernel
theorem dX9_setNight_55 : decode cX9_setNight 55 = .ok (.aload_n 0, 1) := by decide +kernel
theorem dX9_setNight_56 : decode cX9_setNight 56 = .ok (.getfield 7, 3) := by decide +kernel
theorem dX9_setNight_59 : decode cX9_setNight 59 = .ok (.iconst 1, 1) := by decide +kernel
theorem dX9_setNight_60 : decode cX9_setNight 60 = .ok (.iload_n 1, 1) := by decide +kernel
theorem dX9_setNight_61 : decode cX9_setNight 61 = .ok (.iastore, 1) := by decide +kernel
theorem dX9_setNight_62 : decode cX9_setNight 62 = .ok (.aload_n 0, 1) := by decide +kernel
theorem dX9_setNight_63 : decode cX9_setNight 63 = .ok (.getfield 7, 3) := by decide +kernel
theorem dX9_setNight_66 : decode cX9_setNight 66 = .ok (.iconst 2, 1) := by decide +kernel
theorem dX9_setNight_67 : decode cX9_setNight 67 = .ok (.iload_n 2, 1) := by decide +kernel
theorem dX9_setNight_68 : decode cX9_setNight 68 = .ok (.iastore, 1) := by decide +kernel
theorem dX9_setNight_69 : decode cX9_setNight 69 = .ok (.iload_n 2, 1) := by decide +kernel
theorem dX9_setNight_70 : decode cX9_setNight 70 = .ok (.iload_n 1, 1) := by decide +kernel
theorem dX9_setNight_71 : decode cX9_setNight 71 = .ok (.isub, 1) := by decide +kernel
theorem dX9_setNight_72 : decode cX9_setNight 72 = .ok (.bipush 48, 2) := by decide +kernel
theorem dX9_setNight_74 : decode cX9_setNight 74 = .ok (.iadd, 1) := by decide +kernel
theorem dX9_setNight_75 : decode cX9_setNight 75 = .ok (.bipush 48, 2) := by decide +kernel
theorem dX9_setNight_77 : decode cX9_setNight 77 = .ok (.irem, 1) := by decide +kernel
theorem dX9_setNight_78 : decode cX9_setNight 78 = .ok (.ireturn, 1) := by decide +kernel
theorem dX9_isKind_0 : decode cX9_isKind 0 = .ok (.iload_n 0, 1) := by decide +kernel
theorem dX9_isKind_1 : decode cX9_isKind 1 = .ok (.iconst 0, 1) := by decide +kernel
theorem dX9_isKind_2 : decode cX9_isKind 2 = .ok (.iconst 2, 1) := by decide +kernel
theorem dX9_isKind_3 : decode cX9_isKind 3 = .ok (.invokestatic 33, 3) := by decide +kernel
theorem dX9_isKind_6 : decode cX9_isKind 6 = .ok (.ireturn, 1) := by decide +kernel
theorem dX9_putIn_0 : decode cX9_putIn 0 = .ok (.iload_n 1, 1) := by decide +kernel
theorem dX9_putIn_1 : decode cX9_putIn 1 = .ok (.invokestatic 130, 3) := by decide +kernel
theorem dX9_putIn_4 : decode cX9_putIn 4 = .ok (.ifCond .ne 5, 3) := by decide +kernel
theorem dX9_putIn_7 : decode cX9_putIn 7 = .ok (.iconst (-1), 1) := by decide +kernel
theorem dX9_putIn_8 : decode cX9_putIn 8 = .ok (.ireturn, 1) := by decide +kernel
theorem dX9_putIn_9 : decode cX9_putIn 9 = .ok (.iload_n 2, 1) := by decide +kernel
theorem dX9_putIn_10 : decode cX9_putIn 10 = .ok (.invokestatic 134, 3) := by decide +kernel
theorem dX9_putIn_13 : decode cX9_putIn 13 = .ok (.ifCond .eq 15, 3) := by decide +kernel
theorem dX9_putIn_16 : decode cX9_putIn 16 = .ok (.iload_n 3, 1) := by decide +kernel
theorem dX9_putIn_17 : decode cX9_putIn 17 = .ok (.bipush 50, 2) := by decide +kernel
theorem dX9_putIn_19 : decode cX9_putIn 19 = .ok (.sipush 150, 3) := by decide +kernel
theorem dX9_putIn_22 : decode cX9_putIn 22 = .ok (.invokestatic 33, 3) := by decide +kernel
theorem dX9_putIn_25 : decode cX9_putIn 25 = .ok (.ifCond .ne 6, 3) := by decide +kernel
theorem dX9_putIn_28 : decode cX9_putIn 28 = .ok (.bipush (-2), 2) := by decide +kernel
theorem dX9_putIn_30 : decode cX9_putIn 30 = .ok (.ireturn, 1) := by decide +kernel
theorem dX9_putIn_31 : decode cX9_putIn 31 = .ok (.aload_n 0, 1) := by decide +kernel
theorem dX9_putIn_32 : decode cX9_putIn 32 = .ok (.getfield 7, 3) := by decide +kernel
theorem dX9_putIn_35 : decode cX9_putIn 35 = .ok (.iload_n 1, 1) := by decide +kernel
theorem dX9_putIn_36 : decode cX9_putIn 36 = .ok (.invokestatic 78, 3) := by decide +kernel
theorem dX9_putIn_39 : decode cX9_putIn 39 = .ok (.ifCond .eq 6, 3) := by decide +kernel
theorem dX9_putIn_42 : decode cX9_putIn 42 = .ok (.bipush (-4), 2) := by decide +kernel
theorem dX9_putIn_44 : decode cX9_putIn 44 = .ok (.ireturn, 1) := by decide +kernel
theorem dX9_putIn_45 : decode cX9_putIn 45 = .ok (.aload_n 0, 1) := by decide +kernel
theorem dX9_putIn_46 : decode cX9_putIn 46 = .ok (.invokevirtual 49, 3) := by decide +kernel
theorem dX9_putIn_49 : decode cX9_putIn 49 = .ok (.aload_n 0, 1) := by decide +kernel
theorem dX9_putIn_50 : decode cX9_putIn 50 = .ok (.getfield 7, 3) := by decide +kernel
theorem dX9_putIn_53 : decode cX9_putIn 53 = .ok (.iload_n 1, 1) := by decide +kernel
theorem dX9_putIn_54 : decode cX9_putIn 54 = .ok (.iload_n 2, 1) := by decide +kernel
theorem dX9_putIn_55 : decode cX9_putIn 55 = .ok (.iload_n 3, 1) := by decide +kernel
theorem dX9_putIn_56 : decode cX9_putIn 56 = .ok (.invokestatic 109, 3) := by decide +kernel
theorem dX9_putIn_59 : decode cX9_putIn 59 = .ok (.aload_n 0, 1) := by decide +kernel
theorem dX9_putIn_60 : decode cX9_putIn 60 = .ok (.getfield 7, 3) := by decide +kernel
theorem dX9_putIn_63 : decode cX9_putIn 63 = .ok (.iload_n 1, 1) := by decide +kernel
theorem dX9_putIn_64 : decode cX9_putIn 64 = .ok (.invokestatic 64, 3) := by decide +kernel
theorem dX9_putIn_67 : decode cX9_putIn 67 = .ok (.ireturn, 1) := by decide +kernel
theorem dX9_takeOut_0 : decode cX9_takeOut 0 = .ok (.iload_n 1, 1) := by decide +kernel
theorem dX9_takeOut_1 : decode cX9_takeOut 1 = .ok (.invokestatic 130, 3) := by decide +kernel
theorem dX9_takeOut_4 : decode cX9_takeOut 4 = .ok (.ifCond .ne 5, 3) := by decide +kernel
theorem dX9_takeOut_7 : decode cX9_takeOut 7 = .ok (.iconst (-1), 1) := by decide +kernel
theorem dX9_takeOut_8 : decode cX9_takeOut 8 = .ok (.ireturn, 1) := by decide +kernel
theorem dX9_takeOut_9 : decode cX9_takeOut 9 = .ok (.aload_n 0, 1) := by decide +kernel
theorem dX9_takeOut_10 : decode cX9_takeOut 10 = .ok (.getfield 7, 3) := by decide +kernel
theorem dX9_takeOut_13 : decode cX9_takeOut 13 = .ok (.iload_n 1, 1) := by decide +kernel
theorem dX9_takeOut_14 : decode cX9_takeOut 14 = .ok (.invokestatic 78, 3) := by decide +kernel
theorem dX9_takeOut_17 : decode cX9_takeOut 17 = .ok (.ifCond .eq 25, 3) := by decide +kernel
theorem dX9_takeOut_20 : decode cX9_takeOut 20 = .ok (.aload_n 0, 1) := by decide +kernel
theorem dX9_takeOut_21 : decode cX9_takeOut 21 = .ok (.getfield 7, 3) := by decide +kernel
theorem dX9_takeOut_24 : decode cX9_takeOut 24 = .ok (.bipush 10, 2) := by decide +kernel
theorem dX9_takeOut_26 : decode cX9_takeOut 26 = .ok (.iaload, 1) := by decide +kernel
theorem dX9_takeOut_27 : decode cX9_takeOut 27 = .ok (.iconst 1, 1) := by decide +kernel
theorem dX9_takeOut_28 : decode cX9_takeOut 28 = .ok (.if_icmp .ne 17, 3) := by decide +kernel
theorem dX9_takeOut_31 : decode cX9_takeOut 31 = .ok (.iload_n 1, 1) := by decide +kernel
theorem dX9_takeOut_32 : decode cX9_takeOut 32 = .ok (.aload_n 0, 1) := by decide +kernel
theorem dX9_takeOut_33 : decode cX9_takeOut 33 = .ok (.getfield 7, 3) := by decide +kernel
theorem dX9_takeOut_36 : decode cX9_takeOut 36 = .ok (.bipush 7, 2) := by decide +kernel
theorem dX9_takeOut_38 : decode cX9_takeOut 38 = .ok (.iaload, 1) := by decide +kernel
theorem dX9_takeOut_39 : decode cX9_takeOut 39 = .ok (.if_icmp .ne 6, 3) := by decide +kernel
theorem dX9_takeOut_42 : decode cX9_takeOut 42 = .ok (.bipush (-4), 2) := by decide +kernel
theorem dX9_takeOut_44 : decode cX9_takeOut 44 = .ok (.ireturn, 1) := by decide +kernel
theorem dX9_takeOut_45 : decode cX9_takeOut 45 = .ok (.aload_n 0, 1) := by decide +kernel
theorem dX9_takeOut_46 : decode cX9_takeOut 46 = .ok (.invokevirtual 49, 3) := by decide +kernel
theorem dX9_takeOut_49 : decode cX9_takeOut 49 = .ok (.aload_n 0, 1) := by decide +kernel
theorem dX9_takeOut_50 : decode cX9_takeOut 50 = .ok (.getfield 7, 3) := by decide +kernel
theorem dX9_takeOut_53 : decode cX9_takeOut 53 = .ok (.iload_n 1, 1) := by decide +kernel
theorem dX9_takeOut_54 : decode cX9_takeOut 54 = .ok (.invokestatic 29, 3) := by decide +kernel
theorem dX9_takeOut_57 : decode cX9_takeOut 57 = .ok (.aload_n 0, 1) := by decide +kernel
theorem dX9_takeOut_58 : decode cX9_takeOut 58 = .ok (.getfield 7, 3) := by decide +kernel
theorem dX9_takeOut_61 : decode cX9_takeOut 61 = .ok (.iload_n 1, 1) := by decide +kernel
theorem dX9_takeOut_62 : decode cX9_takeOut 62 = .ok (.iconst 2, 1) := by decide +kernel
theorem dX9_takeOut_63 : decode cX9_takeOut 63 = .ok (.invokestatic 56, 3) := by decide +kernel
theorem dX9_takeOut_66 : decode cX9_takeOut 66 = .ok (.ireturn, 1) := by decide +kernel
theorem dX9_turnTo_0 : decode cX9_turnTo 0 = .ok (.iload_n 1, 1) := by decide +kernel
theorem dX9_turnTo_1 : decode cX9_turnTo 1 = .ok (.invokestatic 130, 3) := by decide +kernel
theorem dX9_turnTo_4 : decode cX9_turnTo 4 = .ok (.ifCond .ne 5, 3) := by decide +kernel
theorem dX9_turnTo_7 : decode cX9_turnTo 7 = .ok (.iconst (-1), 1) := by decide +kernel
theorem dX9_turnTo_8 : decode cX9_turnTo 8 = .ok (.ireturn, 1) := by decide +kernel
theorem dX9_turnTo_9 : decode cX9_turnTo 9 = .ok (.aload_n 0, 1) := by decide +kernel
theorem dX9_turnTo_10 : decode cX9_turnTo 10 = .ok (.getfield 7, 3) := by decide +kernel
theorem dX9_turnTo_13 : decode cX9_turnTo 13 = .ok (.bipush 8, 2) := by decide +kernel
theorem dX9_turnTo_15 : decode cX9_turnTo 15 = .ok (.iaload, 1) := by decide +kernel
theorem dX9_turnTo_16 : decode cX9_turnTo 16 = .ok (.bipush (-5), 2) := by decide +kernel
theorem dX9_turnTo_18 : decode cX9_turnTo 18 = .ok (.if_icmp .eq 6, 3) := by decide +kernel
theorem dX9_turnTo_21 : decode cX9_turnTo 21 = .ok (.bipush (-4), 2) := by decide +kernel
theorem dX9_turnTo_23 : decode cX9_turnTo 23 = .ok (.ireturn, 1) := by decide +kernel
theorem dX9_turnTo_24 : decode cX9_turnTo 24 = .ok (.iload_n 1, 1) := by decide +kernel
theorem dX9_turnTo_25 : decode cX9_turnTo 25 = .ok (.aload_n 0, 1) := by decide +kernel
theorem dX9_turnTo_26 : decode cX9_turnTo 26 = .ok (.getfield 7, 3) := by decide +kernel
theorem dX9_turnTo_29 : decode cX9_turnTo 29 = .ok (.bipush 7, 2) := by decide +kernel
theorem dX9_turnTo_31 : decode cX9_turnTo 31 = .ok (.iaload, 1) := by decide +kernel
theorem dX9_turnTo_32 : decode cX9_turnTo 32 = .ok (.if_icmp .ne 6, 3) := by decide +kernel
theorem dX9_turnTo_35 : decode cX9_turnTo 35 = .ok (.bipush (-5), 2) := by decide +kernel
theorem dX9_turnTo_37 : decode cX9_turnTo 37 = .ok (.ireturn, 1) := by decide +kernel
theorem dX9_turnTo_38 : decode cX9_turnTo 38 = .ok (.aload_n 0, 1) := by decide +kernel
theorem dX9_turnTo_39 : decode cX9_turnTo 39 = .ok (.invokevirtual 49, 3) := by decide +kernel
theorem dX9_turnTo_42 : decode cX9_turnTo 42 = .ok (.aload_n 0, 1) := by decide +kernel
theorem dX9_turnTo_43 : decode cX9_turnTo 43 = .ok (.getfield 7, 3) := by decide +kernel
theorem dX9_turnTo_46 : decode cX9_turnTo 46 = .ok (.iload_n 1, 1) := by decide +kernel
theorem dX9_turnTo_47 : decode cX9_turnTo 47 = .ok (.invokestatic 100, 3) := by decide +kernel
theorem dX9_turnTo_50 : decode cX9_turnTo 50 = .ok (.aload_n 0, 1) := by decide +kernel
theorem dX9_turnTo_51 : decode cX9_turnTo 51 = .ok (.getfield 7, 3) := by decide +kernel
theorem dX9_turnTo_54 : decode cX9_turnTo 54 = .ok (.bipush 9, 2) := by decide +kernel
theorem dX9_turnTo_56 : decode cX9_turnTo 56 = .ok (.iaload, 1) := by decide +kernel
theorem dX9_turnTo_57 : decode cX9_turnTo 57 = .ok (.ireturn, 1) := by decide +kernel
theorem dX9_stock_0 : decode cX9_stock 0 = .ok (.iload_n 1, 1) := by decide +kernel
theorem dX9_stock_1 : decode cX9_stock 1 = .ok (.invokestatic 134, 3) := by decide +kernel
theorem dX9_stock_4 : decode cX9_stock 4 = .ok (.ifCond .eq 13, 3) := by decide +kernel
theorem dX9_stock_7 : decode cX9_stock 7 = .ok (.iload_n 2, 1) := by decide +kernel
theorem dX9_stock_8 : decode cX9_stock 8 = .ok (.iconst 1, 1) := by decide +kernel
theorem dX9_stock_9 : decode cX9_stock 9 = .ok (.bipush 6, 2) := by decide +kernel
theorem dX9_stock_11 : decode cX9_stock 11 = .ok (.invokestatic 33, 3) := by decide +kernel
theorem dX9_stock_14 : decode cX9_stock 14 = .ok (.ifCond .ne 6, 3) := by decide +kernel
theorem dX9_stock_17 : decode cX9_stock 17 = .ok (.bipush (-2), 2) := by decide +kernel
theorem dX9_stock_19 : decode cX9_stock 19 = .ok (.ireturn, 1) := by decide +kernel
theorem dX9_stock_20 : decode cX9_stock 20 = .ok (.aload_n 0, 1) := by decide +kernel
theorem dX9_stock_21 : decode cX9_stock 21 = .ok (.getfield 7, 3) := by decide +kernel
theorem dX9_stock_24 : decode cX9_stock 24 = .ok (.bipush 41, 2) := by decide +kernel
theorem dX9_stock_26 : decode cX9_stock 26 = .ok (.iload_n 1, 1) := by decide +kernel
theorem dX9_stock_27 : decode cX9_stock 27 = .ok (.iadd, 1) := by decide +kernel
theorem dX9_stock_28 : decode cX9_stock 28 = .ok (.iaload, 1) := by decide +kernel
theorem dX9_stock_29 : decode cX9_stock 29 = .ok (.iload_n 2, 1) := by decide +kernel
theorem dX9_stock_30 : decode cX9_stock 30 = .ok (.iadd, 1) := by decide +kernel
theorem dX9_stock_31 : decode cX9_stock 31 = .ok (.bipush 99, 2) := by decide +kernel
theorem dX9_stock_33 : decode cX9_stock 33 = .ok (.if_icmp .le 6, 3) := by decide +kernel
theorem dX9_stock_36 : decode cX9_stock 36 = .ok (.bipush (-3), 2) := by decide +kernel
theorem dX9_stock_38 : decode cX9_stock 38 = .ok (.ireturn, 1) := by decide +kernel
theorem dX9_stock_39 : decode cX9_stock 39 = .ok (.aload_n 0, 1) := by decide +kernel
theorem dX9_stock_40 : decode cX9_stock 40 = .ok (.invokevirtual 49, 3) := by decide +kernel
theorem dX9_stock_43 : decode cX9_stock 43 = .ok (.aload_n 0, 1) := by decide +kernel
theorem dX9_stock_44 : decode cX9_stock 44 = .ok (.getfield 7, 3) := by decide +kernel
theorem dX9_stock_47 : decode cX9_stock 47 = .ok (.bipush 41, 2) := by decide +kernel
theorem dX9_stock_49 : decode cX9_stock 49 = .ok (.iload_n 1, 1) := by decide +kernel
theorem dX9_stock_50 : decode cX9_stock 50 = .ok (.iadd, 1) := by decide +kernel
theorem dX9_stock_51 : decode cX9_stock 51 = .ok (.dup2, 1) := by decide +kernel
theorem dX9_stock_52 : decode cX9_stock 52 = .ok (.iaload, 1) := by decide +kernel
theorem dX9_stock_53 : decode cX9_stock 53 = .ok (.iload_n 2, 1) := by decide +kernel
theorem dX9_stock_54 : decode cX9_stock 54 = .ok (.iadd, 1) := by decide +kernel
theorem dX9_stock_55 : decode cX9_stock 55 = .ok (.iastore, 1) := by decide +kernel
theorem dX9_stock_56 : decode cX9_stock 56 = .ok (.aload_n 0, 1) := by decide +kernel
theorem dX9_stock_57 : decode cX9_stock 57 = .ok (.getfield 7, 3) := by decide +kernel
theorem dX9_stock_60 : decode cX9_stock 60 = .ok (.bipush 41, 2) := by decide +kernel
theorem dX9_stock_62 : decode cX9_stock 62 = .ok (.iload_n 1, 1) := by decide +kernel
theorem dX9_stock_63 : decode cX9_stock 63 = .ok (.iadd, 1) := by decide +kernel
theorem dX9_stock_64 : decode cX9_stock 64 = .ok (.iaload, 1) := by decide +kernel
theorem dX9_stock_65 : decode cX9_stock 65 = .ok (.ireturn, 1) := by decide +kernel
theorem dX9_placeOf_0 : decode cX9_placeOf 0 = .ok (.iconst 0, 1) := by decide +kernel
theorem dX9_placeOf_1 : decode cX9_placeOf 1 = .ok (.istore_n 2, 1) := by decide +kernel
theorem dX9_placeOf_2 : decode cX9_placeOf 2 = .ok (.iload_n 2, 1) := by decide +kernel
theorem dX9_placeOf_3 : decode cX9_placeOf 3 = .ok (.aload_n 0, 1) := by decide +kernel
theorem dX9_placeOf_4 : decode cX9_placeOf 4 = .ok (.getfield 7, 3) := by decide +kernel
theorem dX9_placeOf_7 : decode cX9_placeOf 7 = .ok (.bipush 49, 2) := by decide +kernel
theorem dX9_placeOf_9 : decode cX9_placeOf 9 = .ok (.iaload, 1) := by decide +kernel
theorem dX9_placeOf_10 : decode cX9_placeOf 10 = .ok (.if_icmp .ge 24, 3) := by decide +kernel
theorem dX9_placeOf_13 : decode cX9_placeOf 13 = .ok (.aload_n 0, 1) := by decide +kernel
theorem dX9_placeOf_14 : decode cX9_placeOf 14 = .ok (.getfield 7, 3) := by decide +kernel
theorem dX9_placeOf_17 : decode cX9_placeOf 17 = .ok (.bipush 50, 2) := by decide +kernel
theorem dX9_placeOf_19 : decode cX9_placeOf 19 = .ok (.iconst 3, 1) := by decide +kernel
theorem dX9_placeOf_20 : decode cX9_placeOf 20 = .ok (.iload_n 2, 1) := by decide +kernel
theorem dX9_placeOf_21 : decode cX9_placeOf 21 = .ok (.imul, 1) := by decide +kernel
theorem dX9_placeOf_22 : decode cX9_placeOf 22 = .ok (.iadd, 1) := by decide +kernel
theorem dX9_placeOf_23 : decode cX9_placeOf 23 = .ok (.iaload, 1) := by decide +kernel
theorem dX9_placeOf_24 : decode cX9_placeOf 24 = .ok (.iload_n 1, 1) := by decide +kernel
theorem dX9_placeOf_25 : decode cX9_placeOf 25 = .ok (.if_icmp .ge 9, 3) := by decide +kernel
theorem dX9_placeOf_28 : decode cX9_placeOf 28 = .ok (.iinc 2 1, 3) := by decide +kernel
theorem dX9_placeOf_31 : decode cX9_placeOf 31 = .ok (.goto (-29), 3) := by decide +kernel
theorem dX9_placeOf_34 : decode cX9_placeOf 34 = .ok (.iload_n 2, 1) := by decide +kernel
theorem dX9_placeOf_35 : decode cX9_placeOf 35 = .ok (.ireturn, 1) := by decide +kernel
theorem dX9_isPlanned_0 : decode cX9_isPlanned 0 = .ok (.aload_n 0, 1) := by decide +kernel
theorem dX9_isPlanned_1 : decode cX9_isPlanned 1 = .ok (.iload_n 1, 1) := by decide +kernel
theorem dX9_isPlanned_2 : decode cX9_isPlanned 2 = .ok (.invokevirtual 137, 3) := by decide +kernel
theorem dX9_isPlanned_5 : decode cX9_isPlanned 5 = .ok (.istore_n 2, 1) := by decide +kernel
theorem dX9_isPlanned_6 : decode cX9_isPlanned 6 = .ok (.iload_n 2, 1) := by decide +kernel
theorem dX9_isPlanned_7 : decode cX9_isPlanned 7 = .ok (.aload_n 0, 1) := by decide +kernel
theorem dX9_isPlanned_8 : decode cX9_isPlanned 8 = .ok (.getfield 7, 3) := by decide +kernel
theorem dX9_isPlanned_11 : decode cX9_isPlanned 11 = .ok (.bipush 49, 2) := by decide +kernel
theorem dX9_isPlanned_13 : decode cX9_isPlanned 13 = .ok (.iaload, 1) := by decide +kernel
theorem dX9_isPlanned_14 : decode cX9_isPlanned 14 = .ok (.if_icmp .ge 22, 3) := by decide +kernel
theorem dX9_isPlanned_17 : decode cX9_isPlanned 17 = .ok (.aload_n 0, 1) := by decide +kernel
theorem dX9_isPlanned_18 : decode cX9_isPlanned 18 = .ok (.getfield 7, 3) := by decide +kernel
theorem dX9_isPlanned_21 : decode cX9_isPlanned 21 = .ok (.bipush 50, 2) := by decide +kernel
theorem dX9_isPlanned_23 : decode cX9_isPlanned 23 = .ok (.iconst 3, 1) := by decide +kernel
theorem dX9_isPlanned_24 : decode cX9_isPlanned 24 = .ok (.iload_n 2, 1) := by decide +kernel
theorem dX9_isPlanned_25 : decode cX9_isPlanned 25 = .ok (.imul, 1) := by decide +kernel
theorem dX9_isPlanned_26 : decode cX9_isPlanned 26 = .ok (.iadd, 1) := by decide +kernel
theorem dX9_isPlanned_27 : decode cX9_isPlanned 27 = .ok (.iaload, 1) := by decide +kernel
theorem dX9_isPlanned_28 : decode cX9_isPlanned 28 = .ok (.iload_n 1, 1) := by decide +kernel
theorem dX9_isPlanned_29 : decode cX9_isPlanned 29 = .ok (.if_icmp .ne 7, 3) := by decide +kernel
theorem dX9_isPlanned_32 : decode cX9_isPlanned 32 = .ok (.iconst 1, 1) := by decide +kernel
theorem dX9_isPlanned_33 : decode cX9_isPlanned 33 = .ok (.goto 4, 3) := by decide +kernel
theorem dX9_isPlanned_36 : decode cX9_isPlanned 36 = .ok (.iconst 0, 1) := by decide +kernel
theorem dX9_isPlanned_37 : decode cX9_isPlanned 37 = .ok (.ireturn, 1) := by decide +kernel
theorem dX9_plans_0 : decode cX9_plans 0 = .ok (.bipush 50, 2) := by decide +kernel
theorem dX9_plans_2 : decode cX9_plans 2 = .ok (.iconst 3, 1) := by decide +kernel
theorem dX9_plans_3 : decode cX9_plans 3 = .ok (.aload_n 0, 1) := by decide +kernel
theorem dX9_plans_4 : decode cX9_plans 4 = .ok (.iload_n 1, 1) := by decide +kernel
theorem dX9_plans_5 : decode cX9_plans 5 = .ok (.invokevirtual 137, 3) := by decide +kernel
theorem dX9_plans_8 : decode cX9_plans 8 = .ok (.imul, 1) := by decide +kernel
theorem dX9_plans_9 : decode cX9_plans 9 = .ok (.iadd, 1) := by decide +kernel
theorem dX9_plans_10 : decode cX9_plans 10 = .ok (.istore 4, 2) := by decide +kernel
theorem dX9_plans_12 : decode cX9_plans 12 = .ok (.aload_n 0, 1) := by decide +kernel
theorem dX9_plans_13 : decode cX9_plans 13 = .ok (.iload_n 1, 1) := by decide +kernel
theorem dX9_plans_14 : decode cX9_plans 14 = .ok (.invokevirtual 141, 3) := by decide +kernel
theorem dX9_plans_17 : decode cX9_plans 17 = .ok (.ifCond .ne 59, 3) := by decide +kernel
theorem dX9_plans_20 : decode cX9_plans 20 = .ok (.bipush 50, 2) := by decide +kernel
theorem dX9_plans_22 : decode cX9_plans 22 = .ok (.iconst 3, 1) := by decide +kernel
theorem dX9_plans_23 : decode cX9_plans 23 = .ok (.aload_n 0, 1) := by decide +kernel
theorem dX9_plans_24 : decode cX9_plans 24 = .ok (.getfield 7, 3) := by decide +kernel
theorem dX9_plans_27 : decode cX9_plans 27 = .ok (.bipush 49, 2) := by decide +kernel
theorem dX9_plans_29 : decode cX9_plans 29 = .ok (.iaload, 1) := by decide +kernel
theorem dX9_plans_30 : decode cX9_plans 30 = .ok (.imul, 1) := by decide +kernel
theorem dX9_plans_31 : decode cX9_plans 31 = .ok (.iadd, 1) := by decide +kernel
theorem dX9_plans_32 : decode cX9_plans 32 = .ok (.iconst 1, 1) := by decide +kernel
theorem dX9_plans_33 : decode cX9_plans 33 = .ok (.isub, 1) := by decide +kernel
theorem dX9_plans_34 : decode cX9_plans 34 = .ok (.istore 5, 2) := by decide +kernel
theorem dX9_plans_36 : decode cX9_plans 36 = .ok (.iload 5, 2) := by decide +kernel
theorem dX9_plans_38 : decode cX9_plans 38 = .ok (.iload 4, 2) := by decide +kernel
theorem dX9_plans_40 : decode cX9_plans 40 = .ok (.if_icmp .lt 25, 3) := by decide +kernel
theorem dX9_plans_43 : decode cX9_plans 43 = .ok (.aload_n 0, 1) := by decide +kernel
theorem dX9_plans_44 : decode cX9_plans 44 = .ok (.getfield 7, 3) := by decide +kernel
theorem dX9_plans_47 : decode cX9_plans 47 = .ok (.iload 5, 2) := by decide +kernel
theorem dX9_plans_49 : decode cX9_plans 49 = .ok (.iconst 3, 1) := by decide +kernel
theorem dX9_plans_50 : decode cX9_plans 50 = .ok (.iadd, 1) := by decide +kernel
theorem dX9_plans_51 : decode cX9_plans 51 = .ok (.aload_n 0, 1) := by decide +kernel
theorem dX9_plans_52 : decode cX9_plans 52 = .ok (.getfield 7, 3) := by decide +kernel
theorem dX9_plans_55 : decode cX9_plans 55 = .ok (.iload 5, 2) := by decide +kernel
theorem dX9_plans_57 : decode cX9_plans 57 = .ok (.iaload, 1) := by decide +kernel
theorem dX9_plans_58 : decode cX9_plans 58 = .ok (.iastore, 1) := by decide +kernel
theorem dX9_plans_59 : decode cX9_plans 59 = .ok (.iinc 5 (-1), 3) := by decide +kernel
theorem dX9_plans_62 : decode cX9_plans 62 = .ok (.goto (-26), 3) := by decide +kernel
theorem dX9_plans_65 : decode cX9_plans 65 = .ok (.aload_n 0, 1) := by decide +kernel
theorem dX9_plans_66 : decode cX9_plans 66 = .ok (.getfield 7, 3) := by decide +kernel
theorem dX9_plans_69 : decode cX9_plans 69 = .ok (.bipush 49, 2) := by decide +kernel
theorem dX9_plans_71 : decode cX9_plans 71 = .ok (.dup2, 1) := by decide +kernel
theorem dX9_plans_72 : decode cX9_plans 72 = .ok (.iaload, 1) := by decide +kernel
theorem dX9_plans_73 : decode cX9_plans 73 = .ok (.iconst 1, 1) := by decide +kernel
theorem dX9_plans_74 : decode cX9_plans 74 = .ok (.iadd, 1) := by decide +kernel
theorem dX9_plans_75 : decode cX9_plans 75 = .ok (.iastore, 1) := by decide +kernel
theorem dX9_plans_76 : decode cX9_plans 76 = .ok (.aload_n 0, 1) := by decide +kernel
theorem dX9_plans_77 : decode cX9_plans 77 = .ok (.getfield 7, 3) := by decide +kernel
theorem dX9_plans_80 : decode cX9_plans 80 = .ok (.iload 4, 2) := by decide +kernel
theorem dX9_plans_82 : decode cX9_plans 82 = .ok (.iload_n 1, 1) := by decide +kernel
theorem dX9_plans_83 : decode cX9_plans 83 = .ok (.iastore, 1) := by decide +kernel
theorem dX9_plans_84 : decode cX9_plans 84 = .ok (.aload_n 0, 1) := by decide +kernel
theorem dX9_plans_85 : decode cX9_plans 85 = .ok (.getfield 7, 3) := by decide +kernel
theorem dX9_plans_88 : decode cX9_plans 88 = .ok (.iload 4, 2) := by decide +kernel
theorem dX9_plans_90 : decode cX9_plans 90 = .ok (.iconst 1, 1) := by decide +kernel
theorem dX9_plans_91 : decode cX9_plans 91 = .ok (.iadd, 1) := by decide +kernel
theorem dX9_plans_92 : decode cX9_plans 92 = .ok (.iload_n 2, 1) := by decide +kernel
theorem dX9_plans_93 : decode cX9_plans 93 = .ok (.iastore, 1) := by decide +kernel
theorem dX9_plans_94 : decode cX9_plans 94 = .ok (.aload_n 0, 1) := by decide +kernel
theorem dX9_plans_95 : decode cX9_plans 95 = .ok (.getfield 7, 3) := by decide +kernel
theorem dX9_plans_98 : decode cX9_plans 98 = .ok (.iload 4, 2) := by decide +kernel
theorem dX9_plans_100 : decode cX9_plans 100 = .ok (.iconst 2, 1) := by decide +kernel
theorem dX9_plans_101 : decode cX9_plans 101 = .ok (.iadd, 1) := by decide +kernel
theorem dX9_plans_102 : decode cX9_plans 102 = .ok (.iload_n 3, 1) := by decide +kernel
theorem dX9_plans_103 : decode cX9_plans 103 = .ok (.iastore, 1) := by decide +kernel
theorem dX9_plans_104 : decode cX9_plans 104 = .ok (.return_, 1) := by decide +kernel
theorem dX9_boat_0 : decode cX9_boat 0 = .ok (.iload_n 1, 1) := by decide +kernel
theorem dX9_boat_1 : decode cX9_boat 1 = .ok (.iconst 0, 1) := by decide +kernel
theorem dX9_boat_2 : decode cX9_boat 2 = .ok (.sipush 9999, 3) := by decide +kernel
theorem dX9_boat_5 : decode cX9_boat 5 = .ok (.invokestatic 33, 3) := by decide +kernel
theorem dX9_boat_8 : decode cX9_boat 8 = .ok (.ifCond .eq 20, 3) := by decide +kernel
theorem dX9_boat_11 : decode cX9_boat 11 = .ok (.iload_n 2, 1) := by decide +kernel
theorem dX9_boat_12 : decode cX9_boat 12 = .ok (.invokestatic 134, 3) := by decide +kernel
theorem dX9_boat_15 : decode cX9_boat 15 = .ok (.ifCond .eq 13, 3) := by decide +kernel
theorem dX9_boat_18 : decode cX9_boat 18 = .ok (.iload_n 3, 1) := by decide +kernel
theorem dX9_boat_19 : decode cX9_boat 19 = .ok (.iconst 1, 1) := by decide +kernel
theorem dX9_boat_20 : decode cX9_boat 20 = .ok (.bipush 6, 2) := by decide +kernel
theorem dX9_boat_22 : decode cX9_boat 22 = .ok (.invokestatic 33, 3) := by decide +kernel
theorem dX9_boat_25 : decode cX9_boat 25 = .ok (.ifCond .ne 6, 3) := by decide +kernel
theorem dX9_boat_28 : decode cX9_boat 28 = .ok (.bipush (-2), 2) := by decide +kernel
theorem dX9_boat_30 : decode cX9_boat 30 = .ok (.ireturn, 1) := by decide +kernel
theorem dX9_boat_31 : decode cX9_boat 31 = .ok (.aload_n 0, 1) := by decide +kernel
theorem dX9_boat_32 : decode cX9_boat 32 = .ok (.getfield 7, 3) := by decide +kernel
theorem dX9_boat_35 : decode cX9_boat 35 = .ok (.bipush 49, 2) := by decide +kernel
theorem dX9_boat_37 : decode cX9_boat 37 = .ok (.iaload, 1) := by decide +kernel
theorem dX9_boat_38 : decode cX9_boat 38 = .ok (.bipush 10, 2) := by decide +kernel
theorem dX9_boat_40 : decode cX9_boat 40 = .ok (.if_icmp .ne 14, 3) := by decide +kernel
theorem dX9_boat_43 : decode cX9_boat 43 = .ok (.aload_n 0, 1) := by decide +kernel
theorem dX9_boat_44 : decode cX9_boat 44 = .ok (.iload_n 1, 1) := by decide +kernel
theorem dX9_boat_45 : decode cX9_boat 45 = .ok (.invokevirtual 141, 3) := by decide +kernel
theorem dX9_boat_48 : decode cX9_boat 48 = .ok (.ifCond .ne 6, 3) := by decide +kernel
theorem dX9_boat_51 : decode cX9_boat 51 = .ok (.bipush (-3), 2) := by decide +kernel
theorem dX9_boat_53 : decode cX9_boat 53 = .ok (.ireturn, 1) := by decide +kernel
theorem dX9_boat_54 : decode cX9_boat 54 = .ok (.aload_n 0, 1) := by decide +kernel
theorem dX9_boat_55 : decode cX9_boat 55 = .ok (.invokevirtual 49, 3) := by decide +kernel
theorem dX9_boat_58 : decode cX9_boat 58 = .ok (.aload_n 0, 1) := by decide +kernel
theorem dX9_boat_59 : decode cX9_boat 59 = .ok (.iload_n 1, 1) := by decide +kernel
theorem dX9_boat_60 : decode cX9_boat 60 = .ok (.iload_n 2, 1) := by decide +kernel
theorem dX9_boat_61 : decode cX9_boat 61 = .ok (.iload_n 3, 1) := by decide +kernel
theorem dX9_boat_62 : decode cX9_boat 62 = .ok (.invokevirtual 144, 3) := by decide +kernel
theorem dX9_boat_65 : decode cX9_boat 65 = .ok (.aload_n 0, 1) := by decide +kernel
theorem dX9_boat_66 : decode cX9_boat 66 = .ok (.getfield 7, 3) := by decide +kernel
theorem dX9_boat_69 : decode cX9_boat 69 = .ok (.bipush 49, 2) := by decide +kernel
theorem dX9_boat_71 : decode cX9_boat 71 = .ok (.iaload, 1) := by decide +kernel
theorem dX9_boat_72 : decode cX9_boat 72 = .ok (.ireturn, 1) := by decide +kernel
theorem dX9_pass_0 : decode cX9_pass 0 = .ok (.iload_n 1, 1) := by decide +kernel
theorem dX9_pass_1 : decode cX9_pass 1 = .ok (.iconst 1, 1) := by decide +kernel
theorem dX9_pass_2 : decode cX9_pass 2 = .ok (.sipush 200, 3) := by decide +kernel
theorem dX9_pass_5 : decode cX9_pass 5 = .ok (.invokestatic 33, 3) := by decide +kernel
theorem dX9_pass_8 : decode cX9_pass 8 = .ok (.ifCond .ne 6, 3) := by decide +kernel
theorem dX9_pass_11 : decode cX9_pass 11 = .ok (.bipush (-2), 2) := by decide +kernel
theorem dX9_pass_13 : decode cX9_pass 13 = .ok (.ireturn, 1) := by decide +kernel
theorem dX9_pass_14 : decode cX9_pass 14 = .ok (.aload_n 0, 1) := by decide +kernel
theorem dX9_pass_15 : decode cX9_pass 15 = .ok (.getfield 7, 3) := by decide +kernel
theorem dX9_pass_18 : decode cX9_pass 18 = .ok (.iconst 0, 1) := by decide +kernel
theorem dX9_pass_19 : decode cX9_pass 19 = .ok (.iaload, 1) := by decide +kernel
theorem dX9_pass_20 : decode cX9_pass 20 = .ok (.iload_n 1, 1) := by decide +kernel
theorem dX9_pass_21 : decode cX9_pass 21 = .ok (.iadd, 1) := by decide +kernel
theorem dX9_pass_22 : decode cX9_pass 22 = .ok (.ldc 148, 2) := by decide +kernel
theorem dX9_pass_24 : decode cX9_pass 24 = .ok (.if_icmp .le 6, 3) := by decide +kernel
theorem dX9_pass_27 : decode cX9_pass 27 = .ok (.bipush (-3), 2) := by decide +kernel
theorem dX9_pass_29 : decode cX9_pass 29 = .ok (.ireturn, 1) := by decide +kernel
theorem dX9_pass_30 : decode cX9_pass 30 = .ok (.aload_n 0, 1) := by decide +kernel
theorem dX9_pass_31 : decode cX9_pass 31 = .ok (.invokevirtual 49, 3) := by decide +kernel
theorem dX9_pass_34 : decode cX9_pass 34 = .ok (.iconst 0, 1) := by decide +kernel
theorem dX9_pass_35 : decode cX9_pass 35 = .ok (.istore_n 2, 1) := by decide +kernel
theorem dX9_pass_36 : decode cX9_pass 36 = .ok (.iconst 0, 1) := by decide +kernel
theorem dX9_pass_37 : decode cX9_pass 37 = .ok (.istore_n 3, 1) := by decide +kernel
theorem dX9_pass_38 : decode cX9_pass 38 = .ok (.iload_n 3, 1) := by decide +kernel
theorem dX9_pass_39 : decode cX9_pass 39 = .ok (.iload_n 1, 1) := by decide +kernel
theorem dX9_pass_40 : decode cX9_pass 40 = .ok (.if_icmp .ge 28, 3) := by decide +kernel
theorem dX9_pass_43 : decode cX9_pass 43 = .ok (.iload_n 2, 1) := by decide +kernel
theorem dX9_pass_44 : decode cX9_pass 44 = .ok (.aload_n 0, 1) := by decide +kernel
theorem dX9_pass_45 : decode cX9_pass 45 = .ok (.getfield 7, 3) := by decide +kernel
theorem dX9_pass_48 : decode cX9_pass 48 = .ok (.iconst 1, 1) := by decide +kernel
theorem dX9_pass_49 : decode cX9_pass 49 = .ok (.invokestatic 149, 3) := by decide +kernel
theorem dX9_pass_52 : decode cX9_pass 52 = .ok (.ifCond .eq 7, 3) := by decide +kernel
theorem dX9_pass_55 : decode cX9_pass 55 = .ok (.iconst 1, 1) := by decide +kernel
theorem dX9_pass_56 : decode cX9_pass 56 = .ok (.goto 4, 3) := by decide +kernel
theorem dX9_pass_59 : decode cX9_pass 59 = .ok (.iconst 0, 1) := by decide +kernel
theorem dX9_pass_60 : decode cX9_pass 60 = .ok (.iadd, 1) := by decide +kernel
theorem dX9_pass_61 : decode cX9_pass 61 = .ok (.istore_n 2, 1) := by decide +kernel
theorem dX9_pass_62 : decode cX9_pass 62 = .ok (.iinc 3 1, 3) := by decide +kernel
theorem dX9_pass_65 : decode cX9_pass 65 = .ok (.goto (-27), 3) := by decide +kernel
theorem dX9_pass_68 : decode cX9_pass 68 = .ok (.iload_n 2, 1) := by decide +kernel
theorem dX9_pass_69 : decode cX9_pass 69 = .ok (.ireturn, 1) := by decide +kernel
theorem dX9_type_0 : decode cX9_type 0 = .ok (.aload_n 0, 1) := by decide +kernel
theorem dX9_type_1 : decode cX9_type 1 = .ok (.getfield 153, 3) := by decide +kernel
theorem dX9_type_4 : decode cX9_type 4 = .ok (.bipush 60, 2) := by decide +kernel
theorem dX9_type_6 : decode cX9_type 6 = .ok (.if_icmp .ne 6, 3) := by decide +kernel
theorem dX9_type_9 : decode cX9_type 9 = .ok (.bipush (-3), 2) := by decide +kernel
theorem dX9_type_11 : decode cX9_type 11 = .ok (.ireturn, 1) := by decide +kernel
theorem dX9_type_12 : decode cX9_type 12 = .ok (.aload_n 0, 1) := by decide +kernel
theorem dX9_type_13 : decode cX9_type 13 = .ok (.getfield 22, 3) := by decide +kernel
theorem dX9_type_16 : decode cX9_type 16 = .ok (.aload_n 0, 1) := by decide +kernel
theorem dX9_type_17 : decode cX9_type 17 = .ok (.getfield 153, 3) := by decide +kernel
theorem dX9_type_20 : decode cX9_type 20 = .ok (.iload_n 1, 1) := by decide +kernel
theorem dX9_type_21 : decode cX9_type 21 = .ok (.castore, 1) := by decide +kernel
theorem dX9_type_22 : decode cX9_type 22 = .ok (.aload_n 0, 1) := by decide +kernel
theorem dX9_type_23 : decode cX9_type 23 = .ok (.dup, 1) := by decide +kernel
theorem dX9_type_24 : decode cX9_type 24 = .ok (.getfield 153, 3) := by decide +kernel
theorem dX9_type_27 : decode cX9_type 27 = .ok (.iconst 1, 1) := by decide +kernel
theorem dX9_type_28 : decode cX9_type 28 = .ok (.iadd, 1) := by decide +kernel
theorem dX9_type_29 : decode cX9_type 29 = .ok (.putfield 153, 3) := by decide +kernel
theorem dX9_type_32 : decode cX9_type 32 = .ok (.aload_n 0, 1) := by decide +kernel
theorem dX9_type_33 : decode cX9_type 33 = .ok (.getfield 153, 3) := by decide +kernel
theorem dX9_type_36 : decode cX9_type 36 = .ok (.ireturn, 1) := by decide +kernel
theorem dX9_clearText_0 : decode cX9_clearText 0 = .ok (.aload_n 0, 1) := by decide +kernel
theorem dX9_clearText_1 : decode cX9_clearText 1 = .ok (.getfield 153, 3) := by decide +kernel
theorem dX9_clearText_4 : decode cX9_clearText 4 = .ok (.istore_n 1, 1) := by decide +kernel
theorem dX9_clearText_5 : decode cX9_clearText 5 = .ok (.aload_n 0, 1) := by decide +kernel
theorem dX9_clearText_6 : decode cX9_clearText 6 = .ok (.iconst 0, 1) := by decide +kernel
theorem dX9_clearText_7 : decode cX9_clearText 7 = .ok (.putfield 153, 3) := by decide +kernel
theorem dX9_clearText_10 : decode cX9_clearText 10 = .ok (.iload_n 1, 1) := by decide +kernel
theorem dX9_clearText_11 : decode cX9_clearText 11 = .ok (.ireturn, 1) := by decide +kernel
theorem dX9_sees_0 : decode cX9_sees 0 = .ok (.aload_n 0, 1) := by decide +kernel
theorem dX9_sees_1 : decode cX9_sees 1 = .ok (.getfield 156, 3) := by decide +kernel
theorem dX9_sees_4 : decode cX9_sees 4 = .ok (.aload_n 0, 1) := by decide +kernel
theorem dX9_sees_5 : decode cX9_sees 5 = .ok (.getfield 153, 3) := by decide +kernel
theorem dX9_sees_8 : decode cX9_sees 8 = .ok (.if_icmp .ge 24, 3) := by decide +kernel
theorem dX9_sees_11 : decode cX9_sees 11 = .ok (.aload_n 0, 1) := by decide +kernel
theorem dX9_sees_12 : decode cX9_sees 12 = .ok (.getfield 22, 3) := by decide +kernel
theorem dX9_sees_15 : decode cX9_sees 15 = .ok (.aload_n 0, 1) := by decide +kernel
theorem dX9_sees_16 : decode cX9_sees 16 = .ok (.getfield 156, 3) := by decide +kernel
theorem dX9_sees_19 : decode cX9_sees 19 = .ok (.caload, 1) := by decide +kernel
theorem dX9_sees_20 : decode cX9_sees 20 = .ok (.iload_n 1, 1) := by decide +kernel
theorem dX9_sees_21 : decode cX9_sees 21 = .ok (.iload_n 2, 1) := by decide +kernel
theorem dX9_sees_22 : decode cX9_sees 22 = .ok (.invokestatic 33, 3) := by decide +kernel
theorem dX9_sees_25 : decode cX9_sees 25 = .ok (.ifCond .eq 7, 3) := by decide +kernel
theorem dX9_sees_28 : decode cX9_sees 28 = .ok (.iconst 1, 1) := by decide +kernel
theorem dX9_sees_29 : decode cX9_sees 29 = .ok (.goto 4, 3) := by decide +kernel
theorem dX9_sees_32 : decode cX9_sees 32 = .ok (.iconst 0, 1) := by decide +kernel
theorem dX9_sees_33 : decode cX9_sees 33 = .ok (.ireturn, 1) := by decide +kernel
theorem dX9_takes_0 : decode cX9_takes 0 = .ok (.aload_n 0, 1) := by decide +kernel
theorem dX9_takes_1 : decode cX9_takes 1 = .ok (.iload_n 1, 1) := by decide +kernel
theorem dX9_takes_2 : decode cX9_takes 2 = .ok (.iload_n 1, 1) := by decide +kernel
theorem dX9_takes_3 : decode cX9_takes 3 = .ok (.invokevirtual 159, 3) := by decide +kernel
theorem dX9_takes_6 : decode cX9_takes 6 = .ok (.istore_n 2, 1) := by decide +kernel
theorem dX9_takes_7 : decode cX9_takes 7 = .ok (.aload_n 0, 1) := by decide +kernel
theorem dX9_takes_8 : decode cX9_takes 8 = .ok (.dup, 1) := by decide +kernel
theorem dX9_takes_9 : decode cX9_takes 9 = .ok (.getfield 156, 3) := by decide +kernel
theorem dX9_takes_12 : decode cX9_takes 12 = .ok (.iload_n 2, 1) := by decide +kernel
theorem dX9_takes_13 : decode cX9_takes 13 = .ok (.ifCond .eq 7, 3) := by decide +kernel
theorem dX9_takes_16 : decode cX9_takes 16 = .ok (.iconst 1, 1) := by decide +kernel
theorem dX9_takes_17 : decode cX9_takes 17 = .ok (.goto 4, 3) := by decide +kernel
theorem dX9_takes_20 : decode cX9_takes 20 = .ok (.iconst 0, 1) := by decide +kernel
theorem dX9_takes_21 : decode cX9_takes 21 = .ok (.iadd, 1) := by decide +kernel
theorem dX9_takes_22 : decode cX9_takes 22 = .ok (.putfield 156, 3) := by decide +kernel
theorem dX9_takes_25 : decode cX9_takes 25 = .ok (.iload_n 2, 1) := by decide +kernel
theorem dX9_takes_26 : decode cX9_takes 26 = .ok (.ireturn, 1) := by decide +kernel
theorem dX9_digit_0 : decode cX9_digit 0 = .ok (.aload_n 0, 1) := by decide +kernel
theorem dX9_digit_1 : decode cX9_digit 1 = .ok (.iload_n 1, 1) := by decide +kernel
theorem dX9_digit_2 : decode cX9_digit 2 = .ok (.iload_n 2, 1) := by decide +kernel
theorem dX9_digit_3 : decode cX9_digit 3 = .ok (.invokevirtual 159, 3) := by decide +kernel
theorem dX9_digit_6 : decode cX9_digit 6 = .ok (.ifCond .ne 6, 3) := by decide +kernel
theorem dX9_digit_9 : decode cX9_digit 9 = .ok (.bipush (-5), 2) := by decide +kernel
theorem dX9_digit_11 : decode cX9_digit 11 = .ok (.ireturn, 1) := by decide +kernel
theorem dX9_digit_12 : decode cX9_digit 12 = .ok (.aload_n 0, 1) := by decide +kernel
theorem dX9_digit_13 : decode cX9_digit 13 = .ok (.dup, 1) := by decide +kernel
theorem dX9_digit_14 : decode cX9_digit 14 = .ok (.getfield 156, 3) := by decide +kernel
theorem dX9_digit_17 : decode cX9_digit 17 = .ok (.iconst 1, 1) := by decide +kernel
theorem dX9_digit_18 : decode cX9_digit 18 = .ok (.iadd, 1) := by decide +kernel
theorem dX9_digit_19 : decode cX9_digit 19 = .ok (.putfield 156, 3) := by decide +kernel
theorem dX9_digit_22 : decode cX9_digit 22 = .ok (.aload_n 0, 1) := by decide +kernel
theorem dX9_digit_23 : decode cX9_digit 23 = .ok (.getfield 22, 3) := by decide +kernel
theorem dX9_digit_26 : decode cX9_digit 26 = .ok (.aload_n 0, 1) := by decide +kernel
theorem dX9_digit_27 : decode cX9_digit 27 = .ok (.getfield 156, 3) := by decide +kernel
theorem dX9_digit_30 : decode cX9_digit 30 = .ok (.iconst 1, 1) := by decide +kernel
end
section
theorem dX9_digit_31 : decode cX9_digit 31 = .ok (.isub, 1) := by decide +kernel
theorem dX9_digit_32 : decode cX9_digit 32 = .ok (.caload, 1) := by decide +kernel
theorem dX9_digit_33 : decode cX9_digit 33 = .ok (.bipush 48, 2) := by decide +kernel
theorem dX9_digit_35 : decode cX9_digit 35 = .ok (.isub, 1) := by decide +kernel
theorem dX9_digit_36 : decode cX9_digit 36 = .ok (.ireturn, 1) := by decide +kernel
theorem dX9_number_0 : decode cX9_number 0 = .ok (.aload_n 0, 1) := by decide +kernel
theorem dX9_number_1 : decode cX9_number 1 = .ok (.bipush 48, 2) := by decide +kernel
theorem dX9_number_3 : decode cX9_number 3 = .ok (.bipush 57, 2) := by decide +kernel
theorem dX9_number_5 : decode cX9_number 5 = .ok (.invokevirtual 163, 3) := by decide +kernel
theorem dX9_number_8 : decode cX9_number 8 = .ok (.istore_n 1, 1) := by decide +kernel
theorem dX9_number_9 : decode cX9_number 9 = .ok (.iconst 1, 1) := by decide +kernel
theorem dX9_number_10 : decode cX9_number 10 = .ok (.istore_n 2, 1) := by decide +kernel
theorem dX9_number_11 : decode cX9_number 11 = .ok (.iload_n 2, 1) := by decide +kernel
theorem dX9_number_12 : decode cX9_number 12 = .ok (.iconst 4, 1) := by decide +kernel
theorem dX9_number_13 : decode cX9_number 13 = .ok (.if_icmp .ge 38, 3) := by decide +kernel
theorem dX9_number_16 : decode cX9_number 16 = .ok (.iload_n 1, 1) := by decide +kernel
theorem dX9_number_17 : decode cX9_number 17 = .ok (.ifCond .le 34, 3) := by decide +kernel
theorem dX9_number_20 : decode cX9_number 20 = .ok (.aload_n 0, 1) := by decide +kernel
theorem dX9_number_21 : decode cX9_number 21 = .ok (.bipush 48, 2) := by decide +kernel
theorem dX9_number_23 : decode cX9_number 23 = .ok (.bipush 57, 2) := by decide +kernel
theorem dX9_number_25 : decode cX9_number 25 = .ok (.invokevirtual 159, 3) := by decide +kernel
theorem dX9_number_28 : decode cX9_number 28 = .ok (.ifCond .eq 23, 3) := by decide +kernel
theorem dX9_number_31 : decode cX9_number 31 = .ok (.bipush 10, 2) := by decide +kernel
theorem dX9_number_33 : decode cX9_number 33 = .ok (.iload_n 1, 1) := by decide +kernel
theorem dX9_number_34 : decode cX9_number 34 = .ok (.imul, 1) := by decide +kernel
theorem dX9_number_35 : decode cX9_number 35 = .ok (.aload_n 0, 1) := by decide +kernel
theorem dX9_number_36 : decode cX9_number 36 = .ok (.bipush 48, 2) := by decide +kernel
theorem dX9_number_38 : decode cX9_number 38 = .ok (.bipush 57, 2) := by decide +kernel
theorem dX9_number_40 : decode cX9_number 40 = .ok (.invokevirtual 163, 3) := by decide +kernel
theorem dX9_number_43 : decode cX9_number 43 = .ok (.iadd, 1) := by decide +kernel
theorem dX9_number_44 : decode cX9_number 44 = .ok (.istore_n 1, 1) := by decide +kernel
theorem dX9_number_45 : decode cX9_number 45 = .ok (.iinc 2 1, 3) := by decide +kernel
theorem dX9_number_48 : decode cX9_number 48 = .ok (.goto (-37), 3) := by decide +kernel
theorem dX9_number_51 : decode cX9_number 51 = .ok (.iload_n 1, 1) := by decide +kernel
theorem dX9_number_52 : decode cX9_number 52 = .ok (.ireturn, 1) := by decide +kernel
theorem dX9_readsBoat_0 : decode cX9_readsBoat 0 = .ok (.aload_n 0, 1) := by decide +kernel
theorem dX9_readsBoat_1 : decode cX9_readsBoat 1 = .ok (.invokevirtual 167, 3) := by decide +kernel
theorem dX9_readsBoat_4 : decode cX9_readsBoat 4 = .ok (.istore_n 1, 1) := by decide +kernel
theorem dX9_readsBoat_5 : decode cX9_readsBoat 5 = .ok (.iload_n 1, 1) := by decide +kernel
theorem dX9_readsBoat_6 : decode cX9_readsBoat 6 = .ok (.ifCond .lt 12, 3) := by decide +kernel
theorem dX9_readsBoat_9 : decode cX9_readsBoat 9 = .ok (.aload_n 0, 1) := by decide +kernel
theorem dX9_readsBoat_10 : decode cX9_readsBoat 10 = .ok (.bipush 58, 2) := by decide +kernel
theorem dX9_readsBoat_12 : decode cX9_readsBoat 12 = .ok (.invokevirtual 171, 3) := by decide +kernel
theorem dX9_readsBoat_15 : decode cX9_readsBoat 15 = .ok (.ifCond .ne 5, 3) := by decide +kernel
theorem dX9_readsBoat_18 : decode cX9_readsBoat 18 = .ok (.iconst 0, 1) := by decide +kernel
theorem dX9_readsBoat_19 : decode cX9_readsBoat 19 = .ok (.ireturn, 1) := by decide +kernel
theorem dX9_readsBoat_20 : decode cX9_readsBoat 20 = .ok (.aload_n 0, 1) := by decide +kernel
theorem dX9_readsBoat_21 : decode cX9_readsBoat 21 = .ok (.bipush 48, 2) := by decide +kernel
theorem dX9_readsBoat_23 : decode cX9_readsBoat 23 = .ok (.bipush 50, 2) := by decide +kernel
theorem dX9_readsBoat_25 : decode cX9_readsBoat 25 = .ok (.invokevirtual 163, 3) := by decide +kernel
theorem dX9_readsBoat_28 : decode cX9_readsBoat 28 = .ok (.istore_n 2, 1) := by decide +kernel
theorem dX9_readsBoat_29 : decode cX9_readsBoat 29 = .ok (.iload_n 2, 1) := by decide +kernel
theorem dX9_readsBoat_30 : decode cX9_readsBoat 30 = .ok (.ifCond .lt 12, 3) := by decide +kernel
theorem dX9_readsBoat_33 : decode cX9_readsBoat 33 = .ok (.aload_n 0, 1) := by decide +kernel
theorem dX9_readsBoat_34 : decode cX9_readsBoat 34 = .ok (.bipush 120, 2) := by decide +kernel
theorem dX9_readsBoat_36 : decode cX9_readsBoat 36 = .ok (.invokevirtual 171, 3) := by decide +kernel
theorem dX9_readsBoat_39 : decode cX9_readsBoat 39 = .ok (.ifCond .ne 5, 3) := by decide +kernel
theorem dX9_readsBoat_42 : decode cX9_readsBoat 42 = .ok (.iconst 0, 1) := by decide +kernel
theorem dX9_readsBoat_43 : decode cX9_readsBoat 43 = .ok (.ireturn, 1) := by decide +kernel
theorem dX9_readsBoat_44 : decode cX9_readsBoat 44 = .ok (.aload_n 0, 1) := by decide +kernel
theorem dX9_readsBoat_45 : decode cX9_readsBoat 45 = .ok (.bipush 49, 2) := by decide +kernel
theorem dX9_readsBoat_47 : decode cX9_readsBoat 47 = .ok (.bipush 54, 2) := by decide +kernel
theorem dX9_readsBoat_49 : decode cX9_readsBoat 49 = .ok (.invokevirtual 163, 3) := by decide +kernel
theorem dX9_readsBoat_52 : decode cX9_readsBoat 52 = .ok (.istore_n 3, 1) := by decide +kernel
theorem dX9_readsBoat_53 : decode cX9_readsBoat 53 = .ok (.iload_n 3, 1) := by decide +kernel
theorem dX9_readsBoat_54 : decode cX9_readsBoat 54 = .ok (.ifCond .ge 5, 3) := by decide +kernel
theorem dX9_readsBoat_57 : decode cX9_readsBoat 57 = .ok (.iconst 0, 1) := by decide +kernel
theorem dX9_readsBoat_58 : decode cX9_readsBoat 58 = .ok (.ireturn, 1) := by decide +kernel
theorem dX9_readsBoat_59 : decode cX9_readsBoat 59 = .ok (.aload_n 0, 1) := by decide +kernel
theorem dX9_readsBoat_60 : decode cX9_readsBoat 60 = .ok (.getfield 26, 3) := by decide +kernel
theorem dX9_readsBoat_63 : decode cX9_readsBoat 63 = .ok (.iconst 3, 1) := by decide +kernel
theorem dX9_readsBoat_64 : decode cX9_readsBoat 64 = .ok (.aload_n 0, 1) := by decide +kernel
theorem dX9_readsBoat_65 : decode cX9_readsBoat 65 = .ok (.getfield 175, 3) := by decide +kernel
theorem dX9_readsBoat_68 : decode cX9_readsBoat 68 = .ok (.imul, 1) := by decide +kernel
theorem dX9_readsBoat_69 : decode cX9_readsBoat 69 = .ok (.iload_n 1, 1) := by decide +kernel
theorem dX9_readsBoat_70 : decode cX9_readsBoat 70 = .ok (.iastore, 1) := by decide +kernel
theorem dX9_readsBoat_71 : decode cX9_readsBoat 71 = .ok (.aload_n 0, 1) := by decide +kernel
theorem dX9_readsBoat_72 : decode cX9_readsBoat 72 = .ok (.getfield 26, 3) := by decide +kernel
theorem dX9_readsBoat_75 : decode cX9_readsBoat 75 = .ok (.iconst 3, 1) := by decide +kernel
theorem dX9_readsBoat_76 : decode cX9_readsBoat 76 = .ok (.aload_n 0, 1) := by decide +kernel
theorem dX9_readsBoat_77 : decode cX9_readsBoat 77 = .ok (.getfield 175, 3) := by decide +kernel
theorem dX9_readsBoat_80 : decode cX9_readsBoat 80 = .ok (.imul, 1) := by decide +kernel
theorem dX9_readsBoat_81 : decode cX9_readsBoat 81 = .ok (.iconst 1, 1) := by decide +kernel
theorem dX9_readsBoat_82 : decode cX9_readsBoat 82 = .ok (.iadd, 1) := by decide +kernel
theorem dX9_readsBoat_83 : decode cX9_readsBoat 83 = .ok (.iload_n 2, 1) := by decide +kernel
theorem dX9_readsBoat_84 : decode cX9_readsBoat 84 = .ok (.iastore, 1) := by decide +kernel
theorem dX9_readsBoat_85 : decode cX9_readsBoat 85 = .ok (.aload_n 0, 1) := by decide +kernel
theorem dX9_readsBoat_86 : decode cX9_readsBoat 86 = .ok (.getfield 26, 3) := by decide +kernel
theorem dX9_readsBoat_89 : decode cX9_readsBoat 89 = .ok (.iconst 3, 1) := by decide +kernel
theorem dX9_readsBoat_90 : decode cX9_readsBoat 90 = .ok (.aload_n 0, 1) := by decide +kernel
theorem dX9_readsBoat_91 : decode cX9_readsBoat 91 = .ok (.getfield 175, 3) := by decide +kernel
theorem dX9_readsBoat_94 : decode cX9_readsBoat 94 = .ok (.imul, 1) := by decide +kernel
theorem dX9_readsBoat_95 : decode cX9_readsBoat 95 = .ok (.iconst 2, 1) := by decide +kernel
theorem dX9_readsBoat_96 : decode cX9_readsBoat 96 = .ok (.iadd, 1) := by decide +kernel
theorem dX9_readsBoat_97 : decode cX9_readsBoat 97 = .ok (.iload_n 3, 1) := by decide +kernel
theorem dX9_readsBoat_98 : decode cX9_readsBoat 98 = .ok (.iastore, 1) := by decide +kernel
theorem dX9_readsBoat_99 : decode cX9_readsBoat 99 = .ok (.aload_n 0, 1) := by decide +kernel
theorem dX9_readsBoat_100 : decode cX9_readsBoat 100 = .ok (.dup, 1) := by decide +kernel
theorem dX9_readsBoat_101 : decode cX9_readsBoat 101 = .ok (.getfield 175, 3) := by decide +kernel
theorem dX9_readsBoat_104 : decode cX9_readsBoat 104 = .ok (.iconst 1, 1) := by decide +kernel
theorem dX9_readsBoat_105 : decode cX9_readsBoat 105 = .ok (.iadd, 1) := by decide +kernel
theorem dX9_readsBoat_106 : decode cX9_readsBoat 106 = .ok (.putfield 175, 3) := by decide +kernel
theorem dX9_readsBoat_109 : decode cX9_readsBoat 109 = .ok (.iconst 1, 1) := by decide +kernel
theorem dX9_readsBoat_110 : decode cX9_readsBoat 110 = .ok (.ireturn, 1) := by decide +kernel
theorem dX9_isText_0 : decode cX9_isText 0 = .ok (.aload_n 0, 1) := by decide +kernel
theorem dX9_isText_1 : decode cX9_isText 1 = .ok (.iconst 0, 1) := by decide +kernel
theorem dX9_isText_2 : decode cX9_isText 2 = .ok (.putfield 156, 3) := by decide +kernel
theorem dX9_isText_5 : decode cX9_isText 5 = .ok (.aload_n 0, 1) := by decide +kernel
theorem dX9_isText_6 : decode cX9_isText 6 = .ok (.iconst 0, 1) := by decide +kernel
theorem dX9_isText_7 : decode cX9_isText 7 = .ok (.putfield 175, 3) := by decide +kernel
theorem dX9_isText_10 : decode cX9_isText 10 = .ok (.iconst 1, 1) := by decide +kernel
theorem dX9_isText_11 : decode cX9_isText 11 = .ok (.istore_n 1, 1) := by decide +kernel
theorem dX9_isText_12 : decode cX9_isText 12 = .ok (.iload_n 1, 1) := by decide +kernel
theorem dX9_isText_13 : decode cX9_isText 13 = .ok (.ifCond .eq 22, 3) := by decide +kernel
theorem dX9_isText_16 : decode cX9_isText 16 = .ok (.aload_n 0, 1) := by decide +kernel
theorem dX9_isText_17 : decode cX9_isText 17 = .ok (.invokevirtual 178, 3) := by decide +kernel
theorem dX9_isText_20 : decode cX9_isText 20 = .ok (.ifCond .ne 5, 3) := by decide +kernel
theorem dX9_isText_23 : decode cX9_isText 23 = .ok (.iconst 0, 1) := by decide +kernel
theorem dX9_isText_24 : decode cX9_isText 24 = .ok (.ireturn, 1) := by decide +kernel
theorem dX9_isText_25 : decode cX9_isText 25 = .ok (.aload_n 0, 1) := by decide +kernel
theorem dX9_isText_26 : decode cX9_isText 26 = .ok (.bipush 44, 2) := by decide +kernel
theorem dX9_isText_28 : decode cX9_isText 28 = .ok (.invokevirtual 171, 3) := by decide +kernel
theorem dX9_isText_31 : decode cX9_isText 31 = .ok (.istore_n 1, 1) := by decide +kernel
theorem dX9_isText_32 : decode cX9_isText 32 = .ok (.goto (-20), 3) := by decide +kernel
theorem dX9_isText_35 : decode cX9_isText 35 = .ok (.aload_n 0, 1) := by decide +kernel
theorem dX9_isText_36 : decode cX9_isText 36 = .ok (.getfield 156, 3) := by decide +kernel
theorem dX9_isText_39 : decode cX9_isText 39 = .ok (.aload_n 0, 1) := by decide +kernel
theorem dX9_isText_40 : decode cX9_isText 40 = .ok (.getfield 153, 3) := by decide +kernel
theorem dX9_isText_43 : decode cX9_isText 43 = .ok (.if_icmp .ne 7, 3) := by decide +kernel
theorem dX9_isText_46 : decode cX9_isText 46 = .ok (.iconst 1, 1) := by decide +kernel
theorem dX9_isText_47 : decode cX9_isText 47 = .ok (.goto 4, 3) := by decide +kernel
theorem dX9_isText_50 : decode cX9_isText 50 = .ok (.iconst 0, 1) := by decide +kernel
theorem dX9_isText_51 : decode cX9_isText 51 = .ok (.ireturn, 1) := by decide +kernel
theorem dX9_unlike_0 : decode cX9_unlike 0 = .ok (.iconst 0, 1) := by decide +kernel
theorem dX9_unlike_1 : decode cX9_unlike 1 = .ok (.istore_n 1, 1) := by decide +kernel
theorem dX9_unlike_2 : decode cX9_unlike 2 = .ok (.iconst 0, 1) := by decide +kernel
theorem dX9_unlike_3 : decode cX9_unlike 3 = .ok (.istore_n 2, 1) := by decide +kernel
theorem dX9_unlike_4 : decode cX9_unlike 4 = .ok (.iload_n 2, 1) := by decide +kernel
theorem dX9_unlike_5 : decode cX9_unlike 5 = .ok (.aload_n 0, 1) := by decide +kernel
theorem dX9_unlike_6 : decode cX9_unlike 6 = .ok (.getfield 175, 3) := by decide +kernel
theorem dX9_unlike_9 : decode cX9_unlike 9 = .ok (.if_icmp .ge 68, 3) := by decide +kernel
theorem dX9_unlike_12 : decode cX9_unlike 12 = .ok (.iconst 1, 1) := by decide +kernel
theorem dX9_unlike_13 : decode cX9_unlike 13 = .ok (.istore_n 3, 1) := by decide +kernel
theorem dX9_unlike_14 : decode cX9_unlike 14 = .ok (.iconst 0, 1) := by decide +kernel
theorem dX9_unlike_15 : decode cX9_unlike 15 = .ok (.istore 4, 2) := by decide +kernel
theorem dX9_unlike_17 : decode cX9_unlike 17 = .ok (.iload 4, 2) := by decide +kernel
theorem dX9_unlike_19 : decode cX9_unlike 19 = .ok (.iload_n 2, 1) := by decide +kernel
theorem dX9_unlike_20 : decode cX9_unlike 20 = .ok (.if_icmp .ge 39, 3) := by decide +kernel
theorem dX9_unlike_23 : decode cX9_unlike 23 = .ok (.iload_n 3, 1) := by decide +kernel
theorem dX9_unlike_24 : decode cX9_unlike 24 = .ok (.ifCond .eq 27, 3) := by decide +kernel
theorem dX9_unlike_27 : decode cX9_unlike 27 = .ok (.aload_n 0, 1) := by decide +kernel
theorem dX9_unlike_28 : decode cX9_unlike 28 = .ok (.getfield 26, 3) := by decide +kernel
theorem dX9_unlike_31 : decode cX9_unlike 31 = .ok (.iconst 3, 1) := by decide +kernel
theorem dX9_unlike_32 : decode cX9_unlike 32 = .ok (.iload 4, 2) := by decide +kernel
theorem dX9_unlike_34 : decode cX9_unlike 34 = .ok (.imul, 1) := by decide +kernel
theorem dX9_unlike_35 : decode cX9_unlike 35 = .ok (.iaload, 1) := by decide +kernel
theorem dX9_unlike_36 : decode cX9_unlike 36 = .ok (.aload_n 0, 1) := by decide +kernel
theorem dX9_unlike_37 : decode cX9_unlike 37 = .ok (.getfield 26, 3) := by decide +kernel
theorem dX9_unlike_40 : decode cX9_unlike 40 = .ok (.iconst 3, 1) := by decide +kernel
theorem dX9_unlike_41 : decode cX9_unlike 41 = .ok (.iload_n 2, 1) := by decide +kernel
theorem dX9_unlike_42 : decode cX9_unlike 42 = .ok (.imul, 1) := by decide +kernel
theorem dX9_unlike_43 : decode cX9_unlike 43 = .ok (.iaload, 1) := by decide +kernel
theorem dX9_unlike_44 : decode cX9_unlike 44 = .ok (.if_icmp .eq 7, 3) := by decide +kernel
theorem dX9_unlike_47 : decode cX9_unlike 47 = .ok (.iconst 1, 1) := by decide +kernel
theorem dX9_unlike_48 : decode cX9_unlike 48 = .ok (.goto 4, 3) := by decide +kernel
theorem dX9_unlike_51 : decode cX9_unlike 51 = .ok (.iconst 0, 1) := by decide +kernel
theorem dX9_unlike_52 : decode cX9_unlike 52 = .ok (.istore_n 3, 1) := by decide +kernel
theorem dX9_unlike_53 : decode cX9_unlike 53 = .ok (.iinc 4 1, 3) := by decide +kernel
theorem dX9_unlike_56 : decode cX9_unlike 56 = .ok (.goto (-39), 3) := by decide +kernel
theorem dX9_unlike_59 : decode cX9_unlike 59 = .ok (.iload_n 1, 1) := by decide +kernel
theorem dX9_unlike_60 : decode cX9_unlike 60 = .ok (.iload_n 3, 1) := by decide +kernel
theorem dX9_unlike_61 : decode cX9_unlike 61 = .ok (.ifCond .eq 7, 3) := by decide +kernel
theorem dX9_unlike_64 : decode cX9_unlike 64 = .ok (.iconst 1, 1) := by decide +kernel
theorem dX9_unlike_65 : decode cX9_unlike 65 = .ok (.goto 4, 3) := by decide +kernel
theorem dX9_unlike_68 : decode cX9_unlike 68 = .ok (.iconst 0, 1) := by decide +kernel
theorem dX9_unlike_69 : decode cX9_unlike 69 = .ok (.iadd, 1) := by decide +kernel
theorem dX9_unlike_70 : decode cX9_unlike 70 = .ok (.istore_n 1, 1) := by decide +kernel
theorem dX9_unlike_71 : decode cX9_unlike 71 = .ok (.iinc 2 1, 3) := by decide +kernel
theorem dX9_unlike_74 : decode cX9_unlike 74 = .ok (.goto (-70), 3) := by decide +kernel
theorem dX9_unlike_77 : decode cX9_unlike 77 = .ok (.iload_n 1, 1) := by decide +kernel
theorem dX9_unlike_78 : decode cX9_unlike 78 = .ok (.ireturn, 1) := by decide +kernel
theorem dX9_readPlan_0 : decode cX9_readPlan 0 = .ok (.aload_n 0, 1) := by decide +kernel
theorem dX9_readPlan_1 : decode cX9_readPlan 1 = .ok (.invokevirtual 182, 3) := by decide +kernel
theorem dX9_readPlan_4 : decode cX9_readPlan 4 = .ok (.ifCond .ne 11, 3) := by decide +kernel
theorem dX9_readPlan_7 : decode cX9_readPlan 7 = .ok (.bipush (-100), 2) := by decide +kernel
theorem dX9_readPlan_9 : decode cX9_readPlan 9 = .ok (.aload_n 0, 1) := by decide +kernel
theorem dX9_readPlan_10 : decode cX9_readPlan 10 = .ok (.getfield 156, 3) := by decide +kernel
theorem dX9_readPlan_13 : decode cX9_readPlan 13 = .ok (.isub, 1) := by decide +kernel
theorem dX9_readPlan_14 : decode cX9_readPlan 14 = .ok (.ireturn, 1) := by decide +kernel
theorem dX9_readPlan_15 : decode cX9_readPlan 15 = .ok (.aload_n 0, 1) := by decide +kernel
theorem dX9_readPlan_16 : decode cX9_readPlan 16 = .ok (.invokevirtual 185, 3) := by decide +kernel
theorem dX9_readPlan_19 : decode cX9_readPlan 19 = .ok (.bipush 10, 2) := by decide +kernel
theorem dX9_readPlan_21 : decode cX9_readPlan 21 = .ok (.if_icmp .le 6, 3) := by decide +kernel
theorem dX9_readPlan_24 : decode cX9_readPlan 24 = .ok (.bipush (-3), 2) := by decide +kernel
theorem dX9_readPlan_26 : decode cX9_readPlan 26 = .ok (.ireturn, 1) := by decide +kernel
theorem dX9_readPlan_27 : decode cX9_readPlan 27 = .ok (.aload_n 0, 1) := by decide +kernel
theorem dX9_readPlan_28 : decode cX9_readPlan 28 = .ok (.invokevirtual 49, 3) := by decide +kernel
theorem dX9_readPlan_31 : decode cX9_readPlan 31 = .ok (.aload_n 0, 1) := by decide +kernel
theorem dX9_readPlan_32 : decode cX9_readPlan 32 = .ok (.getfield 7, 3) := by decide +kernel
theorem dX9_readPlan_35 : decode cX9_readPlan 35 = .ok (.bipush 49, 2) := by decide +kernel
theorem dX9_readPlan_37 : decode cX9_readPlan 37 = .ok (.iconst 0, 1) := by decide +kernel
theorem dX9_readPlan_38 : decode cX9_readPlan 38 = .ok (.iastore, 1) := by decide +kernel
theorem dX9_readPlan_39 : decode cX9_readPlan 39 = .ok (.iconst 0, 1) := by decide +kernel
theorem dX9_readPlan_40 : decode cX9_readPlan 40 = .ok (.istore_n 1, 1) := by decide +kernel
theorem dX9_readPlan_41 : decode cX9_readPlan 41 = .ok (.iload_n 1, 1) := by decide +kernel
theorem dX9_readPlan_42 : decode cX9_readPlan 42 = .ok (.aload_n 0, 1) := by decide +kernel
theorem dX9_readPlan_43 : decode cX9_readPlan 43 = .ok (.getfield 175, 3) := by decide +kernel
theorem dX9_readPlan_46 : decode cX9_readPlan 46 = .ok (.if_icmp .ge 41, 3) := by decide +kernel
theorem dX9_readPlan_49 : decode cX9_readPlan 49 = .ok (.aload_n 0, 1) := by decide +kernel
theorem dX9_readPlan_50 : decode cX9_readPlan 50 = .ok (.aload_n 0, 1) := by decide +kernel
theorem dX9_readPlan_51 : decode cX9_readPlan 51 = .ok (.getfield 26, 3) := by decide +kernel
theorem dX9_readPlan_54 : decode cX9_readPlan 54 = .ok (.iconst 3, 1) := by decide +kernel
theorem dX9_readPlan_55 : decode cX9_readPlan 55 = .ok (.iload_n 1, 1) := by decide +kernel
theorem dX9_readPlan_56 : decode cX9_readPlan 56 = .ok (.imul, 1) := by decide +kernel
theorem dX9_readPlan_57 : decode cX9_readPlan 57 = .ok (.iaload, 1) := by decide +kernel
theorem dX9_readPlan_58 : decode cX9_readPlan 58 = .ok (.aload_n 0, 1) := by decide +kernel
theorem dX9_readPlan_59 : decode cX9_readPlan 59 = .ok (.getfield 26, 3) := by decide +kernel
theorem dX9_readPlan_62 : decode cX9_readPlan 62 = .ok (.iconst 3, 1) := by decide +kernel
theorem dX9_readPlan_63 : decode cX9_readPlan 63 = .ok (.iload_n 1, 1) := by decide +kernel
theorem dX9_readPlan_64 : decode cX9_readPlan 64 = .ok (.imul, 1) := by decide +kernel
theorem dX9_readPlan_65 : decode cX9_readPlan 65 = .ok (.iconst 1, 1) := by decide +kernel
theorem dX9_readPlan_66 : decode cX9_readPlan 66 = .ok (.iadd, 1) := by decide +kernel
theorem dX9_readPlan_67 : decode cX9_readPlan 67 = .ok (.iaload, 1) := by decide +kernel
theorem dX9_readPlan_68 : decode cX9_readPlan 68 = .ok (.aload_n 0, 1) := by decide +kernel
theorem dX9_readPlan_69 : decode cX9_readPlan 69 = .ok (.getfield 26, 3) := by decide +kernel
theorem dX9_readPlan_72 : decode cX9_readPlan 72 = .ok (.iconst 3, 1) := by decide +kernel
theorem dX9_readPlan_73 : decode cX9_readPlan 73 = .ok (.iload_n 1, 1) := by decide +kernel
theorem dX9_readPlan_74 : decode cX9_readPlan 74 = .ok (.imul, 1) := by decide +kernel
theorem dX9_readPlan_75 : decode cX9_readPlan 75 = .ok (.iconst 2, 1) := by decide +kernel
theorem dX9_readPlan_76 : decode cX9_readPlan 76 = .ok (.iadd, 1) := by decide +kernel
theorem dX9_readPlan_77 : decode cX9_readPlan 77 = .ok (.iaload, 1) := by decide +kernel
theorem dX9_readPlan_78 : decode cX9_readPlan 78 = .ok (.invokevirtual 144, 3) := by decide +kernel
theorem dX9_readPlan_81 : decode cX9_readPlan 81 = .ok (.iinc 1 1, 3) := by decide +kernel
theorem dX9_readPlan_84 : decode cX9_readPlan 84 = .ok (.goto (-43), 3) := by decide +kernel
theorem dX9_readPlan_87 : decode cX9_readPlan 87 = .ok (.aload_n 0, 1) := by decide +kernel
theorem dX9_readPlan_88 : decode cX9_readPlan 88 = .ok (.getfield 7, 3) := by decide +kernel
theorem dX9_readPlan_91 : decode cX9_readPlan 91 = .ok (.bipush 49, 2) := by decide +kernel
theorem dX9_readPlan_93 : decode cX9_readPlan 93 = .ok (.iaload, 1) := by decide +kernel
theorem dX9_readPlan_94 : decode cX9_readPlan 94 = .ok (.ireturn, 1) := by decide +kernel
theorem dX9_lamp_0 : decode cX9_lamp 0 = .ok (.iload_n 1, 1) := by decide +kernel
theorem dX9_lamp_1 : decode cX9_lamp 1 = .ok (.invokestatic 130, 3) := by decide +kernel
theorem dX9_lamp_4 : decode cX9_lamp 4 = .ok (.ifCond .ne 5, 3) := by decide +kernel
theorem dX9_lamp_7 : decode cX9_lamp 7 = .ok (.iconst (-1), 1) := by decide +kernel
theorem dX9_lamp_8 : decode cX9_lamp 8 = .ok (.ireturn, 1) := by decide +kernel
theorem dX9_lamp_9 : decode cX9_lamp 9 = .ok (.iload_n 2, 1) := by decide +kernel
theorem dX9_lamp_10 : decode cX9_lamp 10 = .ok (.iconst 0, 1) := by decide +kernel
theorem dX9_lamp_11 : decode cX9_lamp 11 = .ok (.bipush 7, 2) := by decide +kernel
theorem dX9_lamp_13 : decode cX9_lamp 13 = .ok (.invokestatic 33, 3) := by decide +kernel
theorem dX9_lamp_16 : decode cX9_lamp 16 = .ok (.ifCond .ne 6, 3) := by decide +kernel
theorem dX9_lamp_19 : decode cX9_lamp 19 = .ok (.bipush (-2), 2) := by decide +kernel
theorem dX9_lamp_21 : decode cX9_lamp 21 = .ok (.ireturn, 1) := by decide +kernel
theorem dX9_lamp_22 : decode cX9_lamp 22 = .ok (.aload_n 0, 1) := by decide +kernel
theorem dX9_lamp_23 : decode cX9_lamp 23 = .ok (.getfield 7, 3) := by decide +kernel
theorem dX9_lamp_26 : decode cX9_lamp 26 = .ok (.iload_n 1, 1) := by decide +kernel
theorem dX9_lamp_27 : decode cX9_lamp 27 = .ok (.invokestatic 78, 3) := by decide +kernel
theorem dX9_lamp_30 : decode cX9_lamp 30 = .ok (.ifCond .ne 6, 3) := by decide +kernel
theorem dX9_lamp_33 : decode cX9_lamp 33 = .ok (.bipush (-5), 2) := by decide +kernel
theorem dX9_lamp_35 : decode cX9_lamp 35 = .ok (.ireturn, 1) := by decide +kernel
theorem dX9_lamp_36 : decode cX9_lamp 36 = .ok (.iload_n 2, 1) := by decide +kernel
theorem dX9_lamp_37 : decode cX9_lamp 37 = .ok (.tableswitch 90 3 7 #[35, 44, 53, 63, 80], 35) := by decide +kernel
theorem dX9_lamp_72 : decode cX9_lamp 72 = .ok (.aload_n 0, 1) := by decide +kernel
theorem dX9_lamp_73 : decode cX9_lamp 73 = .ok (.getfield 7, 3) := by decide +kernel
theorem dX9_lamp_76 : decode cX9_lamp 76 = .ok (.iload_n 1, 1) := by decide +kernel
theorem dX9_lamp_77 : decode cX9_lamp 77 = .ok (.invokestatic 64, 3) := by decide +kernel
theorem dX9_lamp_80 : decode cX9_lamp 80 = .ok (.ireturn, 1) := by decide +kernel
theorem dX9_lamp_81 : decode cX9_lamp 81 = .ok (.aload_n 0, 1) := by decide +kernel
theorem dX9_lamp_82 : decode cX9_lamp 82 = .ok (.getfield 7, 3) := by decide +kernel
theorem dX9_lamp_85 : decode cX9_lamp 85 = .ok (.iload_n 1, 1) := by decide +kernel
theorem dX9_lamp_86 : decode cX9_lamp 86 = .ok (.invokestatic 75, 3) := by decide +kernel
theorem dX9_lamp_89 : decode cX9_lamp 89 = .ok (.ireturn, 1) := by decide +kernel
theorem dX9_lamp_90 : decode cX9_lamp 90 = .ok (.aload_n 0, 1) := by decide +kernel
theorem dX9_lamp_91 : decode cX9_lamp 91 = .ok (.getfield 7, 3) := by decide +kernel
theorem dX9_lamp_94 : decode cX9_lamp 94 = .ok (.iload_n 1, 1) := by decide +kernel
theorem dX9_lamp_95 : decode cX9_lamp 95 = .ok (.iconst 3, 1) := by decide +kernel
theorem dX9_lamp_96 : decode cX9_lamp 96 = .ok (.invokestatic 56, 3) := by decide +kernel
theorem dX9_lamp_99 : decode cX9_lamp 99 = .ok (.ireturn, 1) := by decide +kernel
theorem dX9_lamp_100 : decode cX9_lamp 100 = .ok (.aload_n 0, 1) := by decide +kernel
theorem dX9_lamp_101 : decode cX9_lamp 101 = .ok (.getfield 7, 3) := by decide +kernel
theorem dX9_lamp_104 : decode cX9_lamp 104 = .ok (.iload_n 1, 1) := by decide +kernel
theorem dX9_lamp_105 : decode cX9_lamp 105 = .ok (.invokestatic 71, 3) := by decide +kernel
theorem dX9_lamp_108 : decode cX9_lamp 108 = .ok (.ifCond .eq 7, 3) := by decide +kernel
theorem dX9_lamp_111 : decode cX9_lamp 111 = .ok (.iconst 1, 1) := by decide +kernel
theorem dX9_lamp_112 : decode cX9_lamp 112 = .ok (.goto 4, 3) := by decide +kernel
theorem dX9_lamp_115 : decode cX9_lamp 115 = .ok (.iconst 0, 1) := by decide +kernel
theorem dX9_lamp_116 : decode cX9_lamp 116 = .ok (.ireturn, 1) := by decide +kernel
theorem dX9_lamp_117 : decode cX9_lamp 117 = .ok (.aload_n 0, 1) := by decide +kernel
theorem dX9_lamp_118 : decode cX9_lamp 118 = .ok (.getfield 7, 3) := by decide +kernel
theorem dX9_lamp_121 : decode cX9_lamp 121 = .ok (.iload_n 1, 1) := by decide +kernel
theorem dX9_lamp_122 : decode cX9_lamp 122 = .ok (.iconst 4, 1) := by decide +kernel
theorem dX9_lamp_123 : decode cX9_lamp 123 = .ok (.invokestatic 56, 3) := by decide +kernel
theorem dX9_lamp_126 : decode cX9_lamp 126 = .ok (.ireturn, 1) := by decide +kernel
theorem dX9_lamp_127 : decode cX9_lamp 127 = .ok (.aload_n 0, 1) := by decide +kernel
theorem dX9_lamp_128 : decode cX9_lamp 128 = .ok (.getfield 7, 3) := by decide +kernel
theorem dX9_lamp_131 : decode cX9_lamp 131 = .ok (.iload_n 1, 1) := by decide +kernel
theorem dX9_lamp_132 : decode cX9_lamp 132 = .ok (.iload_n 2, 1) := by decide +kernel
theorem dX9_lamp_133 : decode cX9_lamp 133 = .ok (.invokestatic 56, 3) := by decide +kernel
theorem dX9_lamp_136 : decode cX9_lamp 136 = .ok (.ireturn, 1) := by decide +kernel
theorem dX9_wheel_0 : decode cX9_wheel 0 = .ok (.iload_n 1, 1) := by decide +kernel
theorem dX9_wheel_1 : decode cX9_wheel 1 = .ok (.tableswitch 133 0 7 #[47, 55, 63, 87, 95, 111, 119, 126], 47) := by decide +kernel
theorem dX9_wheel_48 : decode cX9_wheel 48 = .ok (.aload_n 0, 1) := by decide +kernel
theorem dX9_wheel_49 : decode cX9_wheel 49 = .ok (.getfield 7, 3) := by decide +kernel
theorem dX9_wheel_52 : decode cX9_wheel 52 = .ok (.bipush 7, 2) := by decide +kernel
theorem dX9_wheel_54 : decode cX9_wheel 54 = .ok (.iaload, 1) := by decide +kernel
theorem dX9_wheel_55 : decode cX9_wheel 55 = .ok (.ireturn, 1) := by decide +kernel
theorem dX9_wheel_56 : decode cX9_wheel 56 = .ok (.aload_n 0, 1) := by decide +kernel
theorem dX9_wheel_57 : decode cX9_wheel 57 = .ok (.getfield 7, 3) := by decide +kernel
theorem dX9_wheel_60 : decode cX9_wheel 60 = .ok (.bipush 8, 2) := by decide +kernel
theorem dX9_wheel_62 : decode cX9_wheel 62 = .ok (.iaload, 1) := by decide +kernel
theorem dX9_wheel_63 : decode cX9_wheel 63 = .ok (.ireturn, 1) := by decide +kernel
theorem dX9_wheel_64 : decode cX9_wheel 64 = .ok (.aload_n 0, 1) := by decide +kernel
theorem dX9_wheel_65 : decode cX9_wheel 65 = .ok (.getfield 7, 3) := by decide +kernel
theorem dX9_wheel_68 : decode cX9_wheel 68 = .ok (.bipush 8, 2) := by decide +kernel
theorem dX9_wheel_70 : decode cX9_wheel 70 = .ok (.iaload, 1) := by decide +kernel
theorem dX9_wheel_71 : decode cX9_wheel 71 = .ok (.bipush (-5), 2) := by decide +kernel
theorem dX9_wheel_73 : decode cX9_wheel 73 = .ok (.if_icmp .ne 7, 3) := by decide +kernel
theorem dX9_wheel_76 : decode cX9_wheel 76 = .ok (.iconst 0, 1) := by decide +kernel
theorem dX9_wheel_77 : decode cX9_wheel 77 = .ok (.goto 10, 3) := by decide +kernel
theorem dX9_wheel_80 : decode cX9_wheel 80 = .ok (.aload_n 0, 1) := by decide +kernel
theorem dX9_wheel_81 : decode cX9_wheel 81 = .ok (.getfield 7, 3) := by decide +kernel
theorem dX9_wheel_84 : decode cX9_wheel 84 = .ok (.bipush 9, 2) := by decide +kernel
theorem dX9_wheel_86 : decode cX9_wheel 86 = .ok (.iaload, 1) := by decide +kernel
theorem dX9_wheel_87 : decode cX9_wheel 87 = .ok (.ireturn, 1) := by decide +kernel
theorem dX9_wheel_88 : decode cX9_wheel 88 = .ok (.aload_n 0, 1) := by decide +kernel
theorem dX9_wheel_89 : decode cX9_wheel 89 = .ok (.getfield 7, 3) := by decide +kernel
theorem dX9_wheel_92 : decode cX9_wheel 92 = .ok (.bipush 10, 2) := by decide +kernel
theorem dX9_wheel_94 : decode cX9_wheel 94 = .ok (.iaload, 1) := by decide +kernel
theorem dX9_wheel_95 : decode cX9_wheel 95 = .ok (.ireturn, 1) := by decide +kernel
theorem dX9_wheel_96 : decode cX9_wheel 96 = .ok (.aload_n 0, 1) := by decide +kernel
theorem dX9_wheel_97 : decode cX9_wheel 97 = .ok (.getfield 7, 3) := by decide +kernel
theorem dX9_wheel_100 : decode cX9_wheel 100 = .ok (.invokestatic 112, 3) := by decide +kernel
theorem dX9_wheel_103 : decode cX9_wheel 103 = .ok (.ifCond .eq 7, 3) := by decide +kernel
theorem dX9_wheel_106 : decode cX9_wheel 106 = .ok (.iconst 1, 1) := by decide +kernel
theorem dX9_wheel_107 : decode cX9_wheel 107 = .ok (.goto 4, 3) := by decide +kernel
theorem dX9_wheel_110 : decode cX9_wheel 110 = .ok (.iconst 0, 1) := by decide +kernel
theorem dX9_wheel_111 : decode cX9_wheel 111 = .ok (.ireturn, 1) := by decide +kernel
theorem dX9_wheel_112 : decode cX9_wheel 112 = .ok (.aload_n 0, 1) := by decide +kernel
theorem dX9_wheel_113 : decode cX9_wheel 113 = .ok (.getfield 7, 3) := by decide +kernel
theorem dX9_wheel_116 : decode cX9_wheel 116 = .ok (.invokestatic 96, 3) := by decide +kernel
theorem dX9_wheel_119 : decode cX9_wheel 119 = .ok (.ireturn, 1) := by decide +kernel
theorem dX9_wheel_120 : decode cX9_wheel 120 = .ok (.aload_n 0, 1) := by decide +kernel
theorem dX9_wheel_121 : decode cX9_wheel 121 = .ok (.getfield 7, 3) := by decide +kernel
theorem dX9_wheel_124 : decode cX9_wheel 124 = .ok (.iconst 1, 1) := by decide +kernel
theorem dX9_wheel_125 : decode cX9_wheel 125 = .ok (.iaload, 1) := by decide +kernel
theorem dX9_wheel_126 : decode cX9_wheel 126 = .ok (.ireturn, 1) := by decide +kernel
theorem dX9_wheel_127 : decode cX9_wheel 127 = .ok (.aload_n 0, 1) := by decide +kernel
theorem dX9_wheel_128 : decode cX9_wheel 128 = .ok (.getfield 7, 3) := by decide +kernel
theorem dX9_wheel_131 : decode cX9_wheel 131 = .ok (.iconst 2, 1) := by decide +kernel
theorem dX9_wheel_132 : decode cX9_wheel 132 = .ok (.iaload, 1) := by decide +kernel
theorem dX9_wheel_133 : decode cX9_wheel 133 = .ok (.ireturn, 1) := by decide +kernel
theorem dX9_wheel_134 : decode cX9_wheel 134 = .ok (.bipush (-2), 2) := by decide +kernel
theorem dX9_wheel_136 : decode cX9_wheel 136 = .ok (.ireturn, 1) := by decide +kernel
theorem dX9_tiredIn_0 : decode cX9_tiredIn 0 = .ok (.iload_n 1, 1) := by decide +kernel
theorem dX9_tiredIn_1 : decode cX9_tiredIn 1 = .ok (.invokestatic 130, 3) := by decide +kernel
theorem dX9_tiredIn_4 : decode cX9_tiredIn 4 = .ok (.ifCond .ne 5, 3) := by decide +kernel
theorem dX9_tiredIn_7 : decode cX9_tiredIn 7 = .ok (.iconst (-1), 1) := by decide +kernel
theorem dX9_tiredIn_8 : decode cX9_tiredIn 8 = .ok (.ireturn, 1) := by decide +kernel
theorem dX9_tiredIn_9 : decode cX9_tiredIn 9 = .ok (.aload_n 0, 1) := by decide +kernel
theorem dX9_tiredIn_10 : decode cX9_tiredIn 10 = .ok (.getfield 7, 3) := by decide +kernel
theorem dX9_tiredIn_13 : decode cX9_tiredIn 13 = .ok (.iload_n 1, 1) := by decide +kernel
theorem dX9_tiredIn_14 : decode cX9_tiredIn 14 = .ok (.iconst 0, 1) := by decide +kernel
theorem dX9_tiredIn_15 : decode cX9_tiredIn 15 = .ok (.invokestatic 81, 3) := by decide +kernel
theorem dX9_tiredIn_18 : decode cX9_tiredIn 18 = .ok (.ifCond .ne 6, 3) := by decide +kernel
theorem dX9_tiredIn_21 : decode cX9_tiredIn 21 = .ok (.bipush (-4), 2) := by decide +kernel
theorem dX9_tiredIn_23 : decode cX9_tiredIn 23 = .ok (.ireturn, 1) := by decide +kernel
theorem dX9_tiredIn_24 : decode cX9_tiredIn 24 = .ok (.aload_n 0, 1) := by decide +kernel
theorem dX9_tiredIn_25 : decode cX9_tiredIn 25 = .ok (.getfield 7, 3) := by decide +kernel
theorem dX9_tiredIn_28 : decode cX9_tiredIn 28 = .ok (.iconst 0, 1) := by decide +kernel
theorem dX9_tiredIn_29 : decode cX9_tiredIn 29 = .ok (.aload_n 0, 1) := by decide +kernel
theorem dX9_tiredIn_30 : decode cX9_tiredIn 30 = .ok (.getfield 13, 3) := by decide +kernel
theorem dX9_tiredIn_33 : decode cX9_tiredIn 33 = .ok (.iconst 0, 1) := by decide +kernel
theorem dX9_tiredIn_34 : decode cX9_tiredIn 34 = .ok (.invokestatic 41, 3) := by decide +kernel
theorem dX9_tiredIn_37 : decode cX9_tiredIn 37 = .ok (.iconst 0, 1) := by decide +kernel
theorem dX9_tiredIn_38 : decode cX9_tiredIn 38 = .ok (.istore_n 2, 1) := by decide +kernel
theorem dX9_tiredIn_39 : decode cX9_tiredIn 39 = .ok (.aload_n 0, 1) := by decide +kernel
theorem dX9_tiredIn_40 : decode cX9_tiredIn 40 = .ok (.getfield 13, 3) := by decide +kernel
theorem dX9_tiredIn_43 : decode cX9_tiredIn 43 = .ok (.iload_n 1, 1) := by decide +kernel
theorem dX9_tiredIn_44 : decode cX9_tiredIn 44 = .ok (.iconst 3, 1) := by decide +kernel
theorem dX9_tiredIn_45 : decode cX9_tiredIn 45 = .ok (.invokestatic 56, 3) := by decide +kernel
theorem dX9_tiredIn_48 : decode cX9_tiredIn 48 = .ok (.ifCond .ne 28, 3) := by decide +kernel
theorem dX9_tiredIn_51 : decode cX9_tiredIn 51 = .ok (.aload_n 0, 1) := by decide +kernel
theorem dX9_tiredIn_52 : decode cX9_tiredIn 52 = .ok (.getfield 13, 3) := by decide +kernel
theorem dX9_tiredIn_55 : decode cX9_tiredIn 55 = .ok (.iload_n 1, 1) := by decide +kernel
theorem dX9_tiredIn_56 : decode cX9_tiredIn 56 = .ok (.invokestatic 71, 3) := by decide +kernel
theorem dX9_tiredIn_59 : decode cX9_tiredIn 59 = .ok (.ifCond .ne 17, 3) := by decide +kernel
theorem dX9_tiredIn_62 : decode cX9_tiredIn 62 = .ok (.aload_n 0, 1) := by decide +kernel
theorem dX9_tiredIn_63 : decode cX9_tiredIn 63 = .ok (.getfield 13, 3) := by decide +kernel
theorem dX9_tiredIn_66 : decode cX9_tiredIn 66 = .ok (.iload_n 1, 1) := by decide +kernel
theorem dX9_tiredIn_67 : decode cX9_tiredIn 67 = .ok (.invokestatic 103, 3) := by decide +kernel
theorem dX9_tiredIn_70 : decode cX9_tiredIn 70 = .ok (.iinc 2 1, 3) := by decide +kernel
theorem dX9_tiredIn_73 : decode cX9_tiredIn 73 = .ok (.goto (-34), 3) := by decide +kernel
theorem dX9_tiredIn_76 : decode cX9_tiredIn 76 = .ok (.aload_n 0, 1) := by decide +kernel
theorem dX9_tiredIn_77 : decode cX9_tiredIn 77 = .ok (.getfield 13, 3) := by decide +kernel
theorem dX9_tiredIn_80 : decode cX9_tiredIn 80 = .ok (.iload_n 1, 1) := by decide +kernel
theorem dX9_tiredIn_81 : decode cX9_tiredIn 81 = .ok (.iconst 3, 1) := by decide +kernel
theorem dX9_tiredIn_82 : decode cX9_tiredIn 82 = .ok (.invokestatic 56, 3) := by decide +kernel
theorem dX9_tiredIn_85 : decode cX9_tiredIn 85 = .ok (.iconst 1, 1) := by decide +kernel
theorem dX9_tiredIn_86 : decode cX9_tiredIn 86 = .ok (.if_icmp .ne 7, 3) := by decide +kernel
theorem dX9_tiredIn_89 : decode cX9_tiredIn 89 = .ok (.iload_n 2, 1) := by decide +kernel
theorem dX9_tiredIn_90 : decode cX9_tiredIn 90 = .ok (.goto 5, 3) := by decide +kernel
theorem dX9_tiredIn_93 : decode cX9_tiredIn 93 = .ok (.bipush (-5), 2) := by decide +kernel
theorem dX9_tiredIn_95 : decode cX9_tiredIn 95 = .ok (.ireturn, 1) := by decide +kernel
theorem dX9_darkIn_0 : decode cX9_darkIn 0 = .ok (.aload_n 0, 1) := by decide +kernel
theorem dX9_darkIn_1 : decode cX9_darkIn 1 = .ok (.getfield 7, 3) := by decide +kernel
theorem dX9_darkIn_4 : decode cX9_darkIn 4 = .ok (.iconst 0, 1) := by decide +kernel
theorem dX9_darkIn_5 : decode cX9_darkIn 5 = .ok (.aload_n 0, 1) := by decide +kernel
theorem dX9_darkIn_6 : decode cX9_darkIn 6 = .ok (.getfield 13, 3) := by decide +kernel
theorem dX9_darkIn_9 : decode cX9_darkIn 9 = .ok (.iconst 0, 1) := by decide +kernel
theorem dX9_darkIn_10 : decode cX9_darkIn 10 = .ok (.invokestatic 41, 3) := by decide +kernel
theorem dX9_darkIn_13 : decode cX9_darkIn 13 = .ok (.iconst 0, 1) := by decide +kernel
theorem dX9_darkIn_14 : decode cX9_darkIn 14 = .ok (.istore_n 1, 1) := by decide +kernel
theorem dX9_darkIn_15 : decode cX9_darkIn 15 = .ok (.iload_n 1, 1) := by decide +kernel
theorem dX9_darkIn_16 : decode cX9_darkIn 16 = .ok (.sipush 3000, 3) := by decide +kernel
theorem dX9_darkIn_19 : decode cX9_darkIn 19 = .ok (.if_icmp .gt 22, 3) := by decide +kernel
theorem dX9_darkIn_22 : decode cX9_darkIn 22 = .ok (.aload_n 0, 1) := by decide +kernel
theorem dX9_darkIn_23 : decode cX9_darkIn 23 = .ok (.getfield 13, 3) := by decide +kernel
theorem dX9_darkIn_26 : decode cX9_darkIn 26 = .ok (.iconst 0, 1) := by decide +kernel
theorem dX9_darkIn_27 : decode cX9_darkIn 27 = .ok (.invokestatic 149, 3) := by decide +kernel
theorem dX9_darkIn_30 : decode cX9_darkIn 30 = .ok (.ifCond .eq 5, 3) := by decide +kernel
theorem dX9_darkIn_33 : decode cX9_darkIn 33 = .ok (.iload_n 1, 1) := by decide +kernel
theorem dX9_darkIn_34 : decode cX9_darkIn 34 = .ok (.ireturn, 1) := by decide +kernel
theorem dX9_darkIn_35 : decode cX9_darkIn 35 = .ok (.iinc 1 1, 3) := by decide +kernel
theorem dX9_darkIn_38 : decode cX9_darkIn 38 = .ok (.goto (-23), 3) := by decide +kernel
theorem dX9_darkIn_41 : decode cX9_darkIn 41 = .ok (.bipush (-5), 2) := by decide +kernel
theorem dX9_darkIn_43 : decode cX9_darkIn 43 = .ok (.ireturn, 1) := by decide +kernel
theorem dX9_left_0 : decode cX9_left 0 = .ok (.aload_n 0, 1) := by decide +kernel
theorem dX9_left_1 : decode cX9_left 1 = .ok (.getfield 7, 3) := by decide +kernel
theorem dX9_left_4 : decode cX9_left 4 = .ok (.iload_n 1, 1) := by decide +kernel
theorem dX9_left_5 : decode cX9_left 5 = .ok (.invokestatic 64, 3) := by decide +kernel
theorem dX9_left_8 : decode cX9_left 8 = .ok (.aload_n 0, 1) := by decide +kernel
theorem dX9_left_9 : decode cX9_left 9 = .ok (.getfield 7, 3) := by decide +kernel
theorem dX9_left_12 : decode cX9_left 12 = .ok (.iload_n 1, 1) := by decide +kernel
theorem dX9_left_13 : decode cX9_left 13 = .ok (.iconst 2, 1) := by decide +kernel
theorem dX9_left_14 : decode cX9_left 14 = .ok (.invokestatic 56, 3) := by decide +kernel
theorem dX9_left_17 : decode cX9_left 17 = .ok (.isub, 1) := by decide +kernel
theorem dX9_left_18 : decode cX9_left 18 = .ok (.ireturn, 1) := by decide +kernel
theorem dX9_ranked_0 : decode cX9_ranked 0 = .ok (.iload_n 1, 1) := by decide +kernel
theorem dX9_ranked_1 : decode cX9_ranked 1 = .ok (.ifCond .ge 6, 3) := by decide +kernel
theorem dX9_ranked_4 : decode cX9_ranked 4 = .ok (.bipush (-2), 2) := by decide +kernel
theorem dX9_ranked_6 : decode cX9_ranked 6 = .ok (.ireturn, 1) := by decide +kernel
theorem dX9_ranked_7 : decode cX9_ranked 7 = .ok (.iconst 0, 1) := by decide +kernel
theorem dX9_ranked_8 : decode cX9_ranked 8 = .ok (.istore_n 2, 1) := by decide +kernel
theorem dX9_ranked_9 : decode cX9_ranked 9 = .ok (.iload_n 2, 1) := by decide +kernel
theorem dX9_ranked_10 : decode cX9_ranked 10 = .ok (.bipush 6, 2) := by decide +kernel
theorem dX9_ranked_12 : decode cX9_ranked 12 = .ok (.if_icmp .ge 125, 3) := by decide +kernel
theorem dX9_ranked_15 : decode cX9_ranked 15 = .ok (.iconst 0, 1) := by decide +kernel
theorem dX9_ranked_16 : decode cX9_ranked 16 = .ok (.istore_n 3, 1) := by decide +kernel
theorem dX9_ranked_17 : decode cX9_ranked 17 = .ok (.iconst 0, 1) := by decide +kernel
theorem dX9_ranked_18 : decode cX9_ranked 18 = .ok (.istore 4, 2) := by decide +kernel
theorem dX9_ranked_20 : decode cX9_ranked 20 = .ok (.iload 4, 2) := by decide +kernel
theorem dX9_ranked_22 : decode cX9_ranked 22 = .ok (.bipush 6, 2) := by decide +kernel
theorem dX9_ranked_24 : decode cX9_ranked 24 = .ok (.if_icmp .ge 88, 3) := by decide +kernel
theorem dX9_ranked_27 : decode cX9_ranked 27 = .ok (.aload_n 0, 1) := by decide +kernel
theorem dX9_ranked_28 : decode cX9_ranked 28 = .ok (.getfield 7, 3) := by decide +kernel
theorem dX9_ranked_31 : decode cX9_ranked 31 = .ok (.iload_n 2, 1) := by decide +kernel
theorem dX9_ranked_32 : decode cX9_ranked 32 = .ok (.iconst 0, 1) := by decide +kernel
theorem dX9_ranked_33 : decode cX9_ranked 33 = .ok (.invokestatic 81, 3) := by decide +kernel
theorem dX9_ranked_36 : decode cX9_ranked 36 = .ok (.ifCond .eq 76, 3) := by decide +kernel
theorem dX9_ranked_39 : decode cX9_ranked 39 = .ok (.aload_n 0, 1) := by decide +kernel
theorem dX9_ranked_40 : decode cX9_ranked 40 = .ok (.getfield 7, 3) := by decide +kernel
theorem dX9_ranked_43 : decode cX9_ranked 43 = .ok (.iload 4, 2) := by decide +kernel
theorem dX9_ranked_45 : decode cX9_ranked 45 = .ok (.iconst 0, 1) := by decide +kernel
theorem dX9_ranked_46 : decode cX9_ranked 46 = .ok (.invokestatic 81, 3) := by decide +kernel
theorem dX9_ranked_49 : decode cX9_ranked 49 = .ok (.ifCond .eq 41, 3) := by decide +kernel
theorem dX9_ranked_52 : decode cX9_ranked 52 = .ok (.aload_n 0, 1) := by decide +kernel
theorem dX9_ranked_53 : decode cX9_ranked 53 = .ok (.iload 4, 2) := by decide +kernel
theorem dX9_ranked_55 : decode cX9_ranked 55 = .ok (.invokevirtual 188, 3) := by decide +kernel
theorem dX9_ranked_58 : decode cX9_ranked 58 = .ok (.aload_n 0, 1) := by decide +kernel
theorem dX9_ranked_59 : decode cX9_ranked 59 = .ok (.iload_n 2, 1) := by decide +kernel
theorem dX9_ranked_60 : decode cX9_ranked 60 = .ok (.invokevirtual 188, 3) := by decide +kernel
theorem dX9_ranked_63 : decode cX9_ranked 63 = .ok (.if_icmp .gt 23, 3) := by decide +kernel
theorem dX9_ranked_66 : decode cX9_ranked 66 = .ok (.aload_n 0, 1) := by decide +kernel
theorem dX9_ranked_67 : decode cX9_ranked 67 = .ok (.iload 4, 2) := by decide +kernel
theorem dX9_ranked_69 : decode cX9_ranked 69 = .ok (.invokevirtual 188, 3) := by decide +kernel
theorem dX9_ranked_72 : decode cX9_ranked 72 = .ok (.aload_n 0, 1) := by decide +kernel
theorem dX9_ranked_73 : decode cX9_ranked 73 = .ok (.iload_n 2, 1) := by decide +kernel
theorem dX9_ranked_74 : decode cX9_ranked 74 = .ok (.invokevirtual 188, 3) := by decide +kernel
theorem dX9_ranked_77 : decode cX9_ranked 77 = .ok (.if_icmp .ne 13, 3) := by decide +kernel
theorem dX9_ranked_80 : decode cX9_ranked 80 = .ok (.iload 4, 2) := by decide +kernel
theorem dX9_ranked_82 : decode cX9_ranked 82 = .ok (.iload_n 2, 1) := by decide +kernel
theorem dX9_ranked_83 : decode cX9_ranked 83 = .ok (.if_icmp .ge 7, 3) := by decide +kernel
theorem dX9_ranked_86 : decode cX9_ranked 86 = .ok (.iconst 1, 1) := by decide +kernel
theorem dX9_ranked_87 : decode cX9_ranked 87 = .ok (.goto 4, 3) := by decide +kernel
theorem dX9_ranked_90 : decode cX9_ranked 90 = .ok (.iconst 0, 1) := by decide +kernel
theorem dX9_ranked_91 : decode cX9_ranked 91 = .ok (.istore 5, 2) := by decide +kernel
theorem dX9_ranked_93 : decode cX9_ranked 93 = .ok (.iload_n 3, 1) := by decide +kernel
theorem dX9_ranked_94 : decode cX9_ranked 94 = .ok (.iload 5, 2) := by decide +kernel
theorem dX9_ranked_96 : decode cX9_ranked 96 = .ok (.ifCond .eq 7, 3) := by decide +kernel
theorem dX9_ranked_99 : decode cX9_ranked 99 = .ok (.iconst 1, 1) := by decide +kernel
theorem dX9_ranked_100 : decode cX9_ranked 100 = .ok (.goto 4, 3) := by decide +kernel
theorem dX9_ranked_103 : decode cX9_ranked 103 = .ok (.iconst 0, 1) := by decide +kernel
theorem dX9_ranked_104 : decode cX9_ranked 104 = .ok (.iadd, 1) := by decide +kernel
theorem dX9_ranked_105 : decode cX9_ranked 105 = .ok (.istore_n 3, 1) := by decide +kernel
theorem dX9_ranked_106 : decode cX9_ranked 106 = .ok (.iinc 4 1, 3) := by decide +kernel
theorem dX9_ranked_109 : decode cX9_ranked 109 = .ok (.goto (-89), 3) := by decide +kernel
theorem dX9_ranked_112 : decode cX9_ranked 112 = .ok (.aload_n 0, 1) := by decide +kernel
theorem dX9_ranked_113 : decode cX9_ranked 113 = .ok (.getfield 7, 3) := by decide +kernel
theorem dX9_ranked_116 : decode cX9_ranked 116 = .ok (.iload_n 2, 1) := by decide +kernel
theorem dX9_ranked_117 : decode cX9_ranked 117 = .ok (.iconst 0, 1) := by decide +kernel
theorem dX9_ranked_118 : decode cX9_ranked 118 = .ok (.invokestatic 81, 3) := by decide +kernel
theorem dX9_ranked_121 : decode cX9_ranked 121 = .ok (.ifCond .eq 10, 3) := by decide +kernel
theorem dX9_ranked_124 : decode cX9_ranked 124 = .ok (.iload_n 3, 1) := by decide +kernel
theorem dX9_ranked_125 : decode cX9_ranked 125 = .ok (.iload_n 1, 1) := by decide +kernel
theorem dX9_ranked_126 : decode cX9_ranked 126 = .ok (.if_icmp .ne 5, 3) := by decide +kernel
theorem dX9_ranked_129 : decode cX9_ranked 129 = .ok (.iload_n 2, 1) := by decide +kernel
theorem dX9_ranked_130 : decode cX9_ranked 130 = .ok (.ireturn, 1) := by decide +kernel
theorem dX9_ranked_131 : decode cX9_ranked 131 = .ok (.iinc 2 1, 3) := by decide +kernel
theorem dX9_ranked_134 : decode cX9_ranked 134 = .ok (.goto (-125), 3) := by decide +kernel
theorem dX9_ranked_137 : decode cX9_ranked 137 = .ok (.bipush (-5), 2) := by decide +kernel
theorem dX9_ranked_139 : decode cX9_ranked 139 = .ok (.ireturn, 1) := by decide +kernel
theorem dX9_planned_0 : decode cX9_planned 0 = .ok (.iload_n 1, 1) := by decide +kernel
theorem dX9_planned_1 : decode cX9_planned 1 = .ok (.ifCond .lt 12, 3) := by decide +kernel
theorem dX9_planned_4 : decode cX9_planned 4 = .ok (.iload_n 2, 1) := by decide +kernel
theorem dX9_planned_5 : decode cX9_planned 5 = .ok (.iconst 0, 1) := by decide +kernel
theorem dX9_planned_6 : decode cX9_planned 6 = .ok (.iconst 2, 1) := by decide +kernel
theorem dX9_planned_7 : decode cX9_planned 7 = .ok (.invokestatic 33, 3) := by decide +kernel
theorem dX9_planned_10 : decode cX9_planned 10 = .ok (.ifCond .ne 6, 3) := by decide +kernel
theorem dX9_planned_13 : decode cX9_planned 13 = .ok (.bipush (-2), 2) := by decide +kernel
theorem dX9_planned_15 : decode cX9_planned 15 = .ok (.ireturn, 1) := by decide +kernel
theorem dX9_planned_16 : decode cX9_planned 16 = .ok (.iload_n 1, 1) := by decide +kernel
theorem dX9_planned_17 : decode cX9_planned 17 = .ok (.aload_n 0, 1) := by decide +kernel
theorem dX9_planned_18 : decode cX9_planned 18 = .ok (.getfield 7, 3) := by decide +kernel
theorem dX9_planned_21 : decode cX9_planned 21 = .ok (.bipush 49, 2) := by decide +kernel
theorem dX9_planned_23 : decode cX9_planned 23 = .ok (.iaload, 1) := by decide +kernel
theorem dX9_planned_24 : decode cX9_planned 24 = .ok (.if_icmp .ge 19, 3) := by decide +kernel
theorem dX9_planned_27 : decode cX9_planned 27 = .ok (.aload_n 0, 1) := by decide +kernel
theorem dX9_planned_28 : decode cX9_planned 28 = .ok (.getfield 7, 3) := by decide +kernel
theorem dX9_planned_31 : decode cX9_planned 31 = .ok (.bipush 50, 2) := by decide +kernel
theorem dX9_planned_33 : decode cX9_planned 33 = .ok (.iconst 3, 1) := by decide +kernel
theorem dX9_planned_34 : decode cX9_planned 34 = .ok (.iload_n 1, 1) := by decide +kernel
theorem dX9_planned_35 : decode cX9_planned 35 = .ok (.imul, 1) := by decide +kernel
theorem dX9_planned_36 : decode cX9_planned 36 = .ok (.iadd, 1) := by decide +kernel
theorem dX9_planned_37 : decode cX9_planned 37 = .ok (.iload_n 2, 1) := by decide +kernel
theorem dX9_planned_38 : decode cX9_planned 38 = .ok (.iadd, 1) := by decide +kernel
theorem dX9_planned_39 : decode cX9_planned 39 = .ok (.iaload, 1) := by decide +kernel
theorem dX9_planned_40 : decode cX9_planned 40 = .ok (.goto 5, 3) := by decide +kernel
theorem dX9_planned_43 : decode cX9_planned 43 = .ok (.bipush (-5), 2) := by decide +kernel
theorem dX9_planned_45 : decode cX9_planned 45 = .ok (.ireturn, 1) := by decide +kernel
theorem dX9_event_0 : decode cX9_event 0 = .ok (.iload_n 1, 1) := by decide +kernel
theorem dX9_event_1 : decode cX9_event 1 = .ok (.ifCond .lt 12, 3) := by decide +kernel
theorem dX9_event_4 : decode cX9_event 4 = .ok (.iload_n 2, 1) := by decide +kernel
theorem dX9_event_5 : decode cX9_event 5 = .ok (.iconst 0, 1) := by decide +kernel
theorem dX9_event_6 : decode cX9_event 6 = .ok (.iconst 2, 1) := by decide +kernel
theorem dX9_event_7 : decode cX9_event 7 = .ok (.invokestatic 33, 3) := by decide +kernel
theorem dX9_event_10 : decode cX9_event 10 = .ok (.ifCond .ne 6, 3) := by decide +kernel
theorem dX9_event_13 : decode cX9_event 13 = .ok (.bipush (-2), 2) := by decide +kernel
theorem dX9_event_15 : decode cX9_event 15 = .ok (.ireturn, 1) := by decide +kernel
theorem dX9_event_16 : decode cX9_event 16 = .ok (.iload_n 1, 1) := by decide +kernel
theorem dX9_event_17 : decode cX9_event 17 = .ok (.aload_n 0, 1) := by decide +kernel
theorem dX9_event_18 : decode cX9_event 18 = .ok (.getfield 7, 3) := by decide +kernel
theorem dX9_event_21 : decode cX9_event 21 = .ok (.bipush 80, 2) := by decide +kernel
theorem dX9_event_23 : decode cX9_event 23 = .ok (.iaload, 1) := by decide +kernel
theorem dX9_event_24 : decode cX9_event 24 = .ok (.if_icmp .ge 29, 3) := by decide +kernel
theorem dX9_event_27 : decode cX9_event 27 = .ok (.aload_n 0, 1) := by decide +kernel
theorem dX9_event_28 : decode cX9_event 28 = .ok (.getfield 7, 3) := by decide +kernel
theorem dX9_event_31 : decode cX9_event 31 = .ok (.bipush 81, 2) := by decide +kernel
theorem dX9_event_33 : decode cX9_event 33 = .ok (.iconst 3, 1) := by decide +kernel
theorem dX9_event_34 : decode cX9_event 34 = .ok (.aload_n 0, 1) := by decide +kernel
theorem dX9_event_35 : decode cX9_event 35 = .ok (.getfield 7, 3) := by decide +kernel
theorem dX9_event_38 : decode cX9_event 38 = .ok (.bipush 80, 2) := by decide +kernel
theorem dX9_event_40 : decode cX9_event 40 = .ok (.iaload, 1) := by decide +kernel
theorem dX9_event_41 : decode cX9_event 41 = .ok (.iconst 1, 1) := by decide +kernel
theorem dX9_event_42 : decode cX9_event 42 = .ok (.isub, 1) := by decide +kernel
theorem dX9_event_43 : decode cX9_event 43 = .ok (.iload_n 1, 1) := by decide +kernel
theorem dX9_event_44 : decode cX9_event 44 = .ok (.isub, 1) := by decide +kernel
theorem dX9_event_45 : decode cX9_event 45 = .ok (.imul, 1) := by decide +kernel
theorem dX9_event_46 : decode cX9_event 46 = .ok (.iadd, 1) := by decide +kernel
theorem dX9_event_47 : decode cX9_event 47 = .ok (.iload_n 2, 1) := by decide +kernel
theorem dX9_event_48 : decode cX9_event 48 = .ok (.iadd, 1) := by decide +kernel
theorem dX9_event_49 : decode cX9_event 49 = .ok (.iaload, 1) := by decide +kernel
theorem dX9_event_50 : decode cX9_event 50 = .ok (.goto 5, 3) := by decide +kernel
theorem dX9_event_53 : decode cX9_event 53 = .ok (.bipush (-5), 2) := by decide +kernel
theorem dX9_event_55 : decode cX9_event 55 = .ok (.ireturn, 1) := by decide +kernel
theorem dX9_lamps_0 : decode cX9_lamps 0 = .ok (.iconst 0, 1) := by decide +kernel
theorem dX9_lamps_1 : decode cX9_lamps 1 = .ok (.istore_n 2, 1) := by decide +kernel
theorem dX9_lamps_2 : decode cX9_lamps 2 = .ok (.iconst 0, 1) := by decide +kernel
theorem dX9_lamps_3 : decode cX9_lamps 3 = .ok (.istore_n 3, 1) := by decide +kernel
theorem dX9_lamps_4 : decode cX9_lamps 4 = .ok (.iload_n 3, 1) := by decide +kernel
theorem dX9_lamps_5 : decode cX9_lamps 5 = .ok (.bipush 6, 2) := by decide +kernel
theorem dX9_lamps_7 : decode cX9_lamps 7 = .ok (.if_icmp .ge 88, 3) := by decide +kernel
theorem dX9_lamps_10 : decode cX9_lamps 10 = .ok (.aload_n 0, 1) := by decide +kernel
theorem dX9_lamps_11 : decode cX9_lamps 11 = .ok (.getfield 7, 3) := by decide +kernel
theorem dX9_lamps_14 : decode cX9_lamps 14 = .ok (.iload_n 3, 1) := by decide +kernel
theorem dX9_lamps_15 : decode cX9_lamps 15 = .ok (.invokestatic 78, 3) := by decide +kernel
theorem dX9_lamps_18 : decode cX9_lamps 18 = .ok (.ifCond .eq 55, 3) := by decide +kernel
theorem dX9_lamps_21 : decode cX9_lamps 21 = .ok (.iload_n 1, 1) := by decide +kernel
theorem dX9_lamps_22 : decode cX9_lamps 22 = .ok (.iconst 1, 1) := by decide +kernel
theorem dX9_lamps_23 : decode cX9_lamps 23 = .ok (.if_icmp .eq 46, 3) := by decide +kernel
theorem dX9_lamps_26 : decode cX9_lamps 26 = .ok (.iload_n 1, 1) := by decide +kernel
theorem dX9_lamps_27 : decode cX9_lamps 27 = .ok (.iconst 2, 1) := by decide +kernel
theorem dX9_lamps_28 : decode cX9_lamps 28 = .ok (.if_icmp .ne 17, 3) := by decide +kernel
theorem dX9_lamps_31 : decode cX9_lamps 31 = .ok (.aload_n 0, 1) := by decide +kernel
theorem dX9_lamps_32 : decode cX9_lamps 32 = .ok (.getfield 7, 3) := by decide +kernel
theorem dX9_lamps_35 : decode cX9_lamps 35 = .ok (.iload_n 3, 1) := by decide +kernel
theorem dX9_lamps_36 : decode cX9_lamps 36 = .ok (.invokestatic 71, 3) := by decide +kernel
theorem dX9_lamps_39 : decode cX9_lamps 39 = .ok (.ifCond .eq 34, 3) := by decide +kernel
theorem dX9_lamps_42 : decode cX9_lamps 42 = .ok (.goto 27, 3) := by decide +kernel
theorem dX9_lamps_45 : decode cX9_lamps 45 = .ok (.aload_n 0, 1) := by decide +kernel
theorem dX9_lamps_46 : decode cX9_lamps 46 = .ok (.getfield 7, 3) := by decide +kernel
theorem dX9_lamps_49 : decode cX9_lamps 49 = .ok (.iload_n 3, 1) := by decide +kernel
theorem dX9_lamps_50 : decode cX9_lamps 50 = .ok (.iconst 3, 1) := by decide +kernel
theorem dX9_lamps_51 : decode cX9_lamps 51 = .ok (.invokestatic 56, 3) := by decide +kernel
theorem dX9_lamps_54 : decode cX9_lamps 54 = .ok (.iconst 1, 1) := by decide +kernel
theorem dX9_lamps_55 : decode cX9_lamps 55 = .ok (.if_icmp .ne 18, 3) := by decide +kernel
theorem dX9_lamps_58 : decode cX9_lamps 58 = .ok (.aload_n 0, 1) := by decide +kernel
theorem dX9_lamps_59 : decode cX9_lamps 59 = .ok (.getfield 7, 3) := by decide +kernel
theorem dX9_lamps_62 : decode cX9_lamps 62 = .ok (.iload_n 3, 1) := by decide +kernel
theorem dX9_lamps_63 : decode cX9_lamps 63 = .ok (.invokestatic 71, 3) := by decide +kernel
theorem dX9_lamps_66 : decode cX9_lamps 66 = .ok (.ifCond .ne 7, 3) := by decide +kernel
theorem dX9_lamps_69 : decode cX9_lamps 69 = .ok (.iconst 1, 1) := by decide +kernel
theorem dX9_lamps_70 : decode cX9_lamps 70 = .ok (.goto 4, 3) := by decide +kernel
theorem dX9_lamps_73 : decode cX9_lamps 73 = .ok (.iconst 0, 1) := by decide +kernel
theorem dX9_lamps_74 : decode cX9_lamps 74 = .ok (.istore 4, 2) := by decide +kernel
theorem dX9_lamps_76 : decode cX9_lamps 76 = .ok (.iload_n 2, 1) := by decide +kernel
theorem dX9_lamps_77 : decode cX9_lamps 77 = .ok (.iload 4, 2) := by decide +kernel
theorem dX9_lamps_79 : decode cX9_lamps 79 = .ok (.ifCond .eq 7, 3) := by decide +kernel
theorem dX9_lamps_82 : decode cX9_lamps 82 = .ok (.iconst 1, 1) := by decide +kernel
theorem dX9_lamps_83 : decode cX9_lamps 83 = .ok (.goto 4, 3) := by decide +kernel
theorem dX9_lamps_86 : decode cX9_lamps 86 = .ok (.iconst 0, 1) := by decide +kernel
theorem dX9_lamps_87 : decode cX9_lamps 87 = .ok (.iadd, 1) := by decide +kernel
theorem dX9_lamps_88 : decode cX9_lamps 88 = .ok (.istore_n 2, 1) := by decide +kernel
theorem dX9_lamps_89 : decode cX9_lamps 89 = .ok (.iinc 3 1, 3) := by decide +kernel
theorem dX9_lamps_92 : decode cX9_lamps 92 = .ok (.goto (-88), 3) := by decide +kernel
theorem dX9_lamps_95 : decode cX9_lamps 95 = .ok (.iload_n 2, 1) := by decide +kernel
theorem dX9_lamps_96 : decode cX9_lamps 96 = .ok (.ireturn, 1) := by decide +kernel
theorem dX9_count_0 : decode cX9_count 0 = .ok (.iload_n 1, 1) := by decide +kernel
theorem dX9_count_1 : decode cX9_count 1 = .ok (.tableswitch 146 0 13 #[71, 78, 78, 78, 84, 84, 84, 96, 104, 112, 120, 128, 136, 141], 71) := by decide +kernel
theorem dX9_count_72 : decode cX9_count 72 = .ok (.aload_n 0, 1) := by decide +kernel
theorem dX9_count_73 : decode cX9_count 73 = .ok (.getfield 7, 3) := by decide +kernel
theorem dX9_count_76 : decode cX9_count 76 = .ok (.iconst 0, 1) := by decide +kernel
theorem dX9_count_77 : decode cX9_count 77 = .ok (.iaload, 1) := by decide +kernel
theorem dX9_count_78 : decode cX9_count 78 = .ok (.ireturn, 1) := by decide +kernel
theorem dX9_count_79 : decode cX9_count 79 = .ok (.aload_n 0, 1) := by decide +kernel
theorem dX9_count_80 : decode cX9_count 80 = .ok (.iload_n 1, 1) := by decide +kernel
theorem dX9_count_81 : decode cX9_count 81 = .ok (.invokevirtual 191, 3) := by decide +kernel
theorem dX9_count_84 : decode cX9_count 84 = .ok (.ireturn, 1) := by decide +kernel
theorem dX9_count_85 : decode cX9_count 85 = .ok (.aload_n 0, 1) := by decide +kernel
theorem dX9_count_86 : decode cX9_count 86 = .ok (.getfield 7, 3) := by decide +kernel
theorem dX9_count_89 : decode cX9_count 89 = .ok (.bipush 41, 2) := by decide +kernel
theorem dX9_count_91 : decode cX9_count 91 = .ok (.iload_n 1, 1) := by decide +kernel
theorem dX9_count_92 : decode cX9_count 92 = .ok (.iadd, 1) := by decide +kernel
theorem dX9_count_93 : decode cX9_count 93 = .ok (.iconst 4, 1) := by decide +kernel
theorem dX9_count_94 : decode cX9_count 94 = .ok (.isub, 1) := by decide +kernel
theorem dX9_count_95 : decode cX9_count 95 = .ok (.iaload, 1) := by decide +kernel
theorem dX9_count_96 : decode cX9_count 96 = .ok (.ireturn, 1) := by decide +kernel
theorem dX9_count_97 : decode cX9_count 97 = .ok (.aload_n 0, 1) := by decide +kernel
theorem dX9_count_98 : decode cX9_count 98 = .ok (.getfield 7, 3) := by decide +kernel
theorem dX9_count_101 : decode cX9_count 101 = .ok (.bipush 44, 2) := by decide +kernel
theorem dX9_count_103 : decode cX9_count 103 = .ok (.iaload, 1) := by decide +kernel
theorem dX9_count_104 : decode cX9_count 104 = .ok (.ireturn, 1) := by decide +kernel
theorem dX9_count_105 : decode cX9_count 105 = .ok (.aload_n 0, 1) := by decide +kernel
theorem dX9_count_106 : decode cX9_count 106 = .ok (.getfield 7, 3) := by decide +kernel
theorem dX9_count_109 : decode cX9_count 109 = .ok (.bipush 46, 2) := by decide +kernel
theorem dX9_count_111 : decode cX9_count 111 = .ok (.iaload, 1) := by decide +kernel
theorem dX9_count_112 : decode cX9_count 112 = .ok (.ireturn, 1) := by decide +kernel
theorem dX9_count_113 : decode cX9_count 113 = .ok (.aload_n 0, 1) := by decide +kernel
theorem dX9_count_114 : decode cX9_count 114 = .ok (.getfield 7, 3) := by decide +kernel
theorem dX9_count_117 : decode cX9_count 117 = .ok (.bipush 47, 2) := by decide +kernel
theorem dX9_count_119 : decode cX9_count 119 = .ok (.iaload, 1) := by decide +kernel
theorem dX9_count_120 : decode cX9_count 120 = .ok (.ireturn, 1) := by decide +kernel
theorem dX9_count_121 : decode cX9_count 121 = .ok (.aload_n 0, 1) := by decide +kernel
theorem dX9_count_122 : decode cX9_count 122 = .ok (.getfield 7, 3) := by decide +kernel
theorem dX9_count_125 : decode cX9_count 125 = .ok (.bipush 48, 2) := by decide +kernel
theorem dX9_count_127 : decode cX9_count 127 = .ok (.iaload, 1) := by decide +kernel
theorem dX9_count_128 : decode cX9_count 128 = .ok (.ireturn, 1) := by decide +kernel
theorem dX9_count_129 : decode cX9_count 129 = .ok (.aload_n 0, 1) := by decide +kernel
theorem dX9_count_130 : decode cX9_count 130 = .ok (.getfield 7, 3) := by decide +kernel
theorem dX9_count_133 : decode cX9_count 133 = .ok (.bipush 49, 2) := by decide +kernel
theorem dX9_count_135 : decode cX9_count 135 = .ok (.iaload, 1) := by decide +kernel
theorem dX9_count_136 : decode cX9_count 136 = .ok (.ireturn, 1) := by decide +kernel
theorem dX9_count_137 : decode cX9_count 137 = .ok (.aload_n 0, 1) := by decide +kernel
theorem dX9_count_138 : decode cX9_count 138 = .ok (.getfield 37, 3) := by decide +kernel
theorem dX9_count_141 : decode cX9_count 141 = .ok (.ireturn, 1) := by decide +kernel
theorem dX9_count_142 : decode cX9_count 142 = .ok (.aload_n 0, 1) := by decide +kernel
theorem dX9_count_143 : decode cX9_count 143 = .ok (.getfield 153, 3) := by decide +kernel
theorem dX9_count_146 : decode cX9_count 146 = .ok (.ireturn, 1) := by decide +kernel
theorem dX9_count_147 : decode cX9_count 147 = .ok (.bipush (-2), 2) := by decide +kernel
theorem dX9_count_149 : decode cX9_count 149 = .ok (.ireturn, 1) := by decide +kernel
theorem dX9_setting_0 : decode cX9_setting 0 = .ok (.iload_n 1, 1) := by decide +kernel
theorem dX9_setting_1 : decode cX9_setting 1 = .ok (.iconst 0, 1) := by decide +kernel
theorem dX9_setting_2 : decode cX9_setting 2 = .ok (.iconst 3, 1) := by decide +kernel
theorem dX9_setting_3 : decode cX9_setting 3 = .ok (.invokestatic 33, 3) := by decide +kernel
theorem dX9_setting_6 : decode cX9_setting 6 = .ok (.ifCond .eq 14, 3) := by decide +kernel
theorem dX9_setting_9 : decode cX9_setting 9 = .ok (.aload_n 0, 1) := by decide +kernel
theorem dX9_setting_10 : decode cX9_setting 10 = .ok (.getfield 7, 3) := by decide +kernel
theorem dX9_setting_13 : decode cX9_setting 13 = .ok (.iconst 3, 1) := by decide +kernel
theorem dX9_setting_14 : decode cX9_setting 14 = .ok (.iload_n 1, 1) := by decide +kernel
theorem dX9_setting_15 : decode cX9_setting 15 = .ok (.iadd, 1) := by decide +kernel
theorem dX9_setting_16 : decode cX9_setting 16 = .ok (.iaload, 1) := by decide +kernel
theorem dX9_setting_17 : decode cX9_setting 17 = .ok (.goto 4, 3) := by decide +kernel
theorem dX9_setting_20 : decode cX9_setting 20 = .ok (.iconst (-1), 1) := by decide +kernel
theorem dX9_setting_21 : decode cX9_setting 21 = .ok (.ireturn, 1) := by decide +kernel
theorem dJ9_floorMod_7cf53_0 : decode cJ9_floorMod_7cf53 0 = .ok (.iload_n 0, 1) := by decide +kernel
theorem dJ9_floorMod_7cf53_1 : decode cJ9_floorMod_7cf53 1 = .ok (.iload_n 1, 1) := by decide +kernel
theorem dJ9_floorMod_7cf53_2 : decode cJ9_floorMod_7cf53 2 = .ok (.irem, 1) := by decide +kernel
theorem dJ9_floorMod_7cf53_3 : decode cJ9_floorMod_7cf53 3 = .ok (.istore_n 2, 1) := by decide +kernel
theorem dJ9_floorMod_7cf53_4 : decode cJ9_floorMod_7cf53 4 = .ok (.iload_n 0, 1) := by decide +kernel
theorem dJ9_floorMod_7cf53_5 : decode cJ9_floorMod_7cf53 5 = .ok (.iload_n 1, 1) := by decide +kernel
theorem dJ9_floorMod_7cf53_6 : decode cJ9_floorMod_7cf53 6 = .ok (.ixor, 1) := by decide +kernel
theorem dJ9_floorMod_7cf53_7 : decode cJ9_floorMod_7cf53 7 = .ok (.ifCond .ge 11, 3) := by decide +kernel
theorem dJ9_floorMod_7cf53_10 : decode cJ9_floorMod_7cf53 10 = .ok (.iload_n 2, 1) := by decide +kernel
theorem dJ9_floorMod_7cf53_11 : decode cJ9_floorMod_7cf53 11 = .ok (.ifCond .eq 7, 3) := by decide +kernel
theorem dJ9_floorMod_7cf53_14 : decode cJ9_floorMod_7cf53 14 = .ok (.iload_n 2, 1) := by decide +kernel
theorem dJ9_floorMod_7cf53_15 : decode cJ9_floorMod_7cf53 15 = .ok (.iload_n 1, 1) := by decide +kernel
theorem dJ9_floorMod_7cf53_16 : decode cJ9_floorMod_7cf53 16 = .ok (.iadd, 1) := by decide +kernel
theorem dJ9_floorMod_7cf53_17 : decode cJ9_floorMod_7cf53 17 = .ok (.ireturn, 1) := by decide +kernel
theorem dJ9_floorMod_7cf53_18 : decode cJ9_floorMod_7cf53 18 = .ok (.iload_n 2, 1) := by decide +kernel
theorem dJ9_floorMod_7cf53_19 : decode cJ9_floorMod_7cf53 19 = .ok (.ireturn, 1) := by decide +kernel
theorem dJ9_max_7cf53_0 : decode cJ9_max_7cf53 0 = .ok (.iload_n 0, 1) := by decide +kernel
theorem dJ9_max_7cf53_1 : decode cJ9_max_7cf53 1 = .ok (.iload_n 1, 1) := by decide +kernel
theorem dJ9_max_7cf53_2 : decode cJ9_max_7cf53 2 = .ok (.if_icmp .lt 7, 3) := by decide +kernel
theorem dJ9_max_7cf53_5 : decode cJ9_max_7cf53 5 = .ok (.iload_n 0, 1) := by decide +kernel
theorem dJ9_max_7cf53_6 : decode cJ9_max_7cf53 6 = .ok (.goto 4, 3) := by decide +kernel
theorem dJ9_max_7cf53_9 : decode cJ9_max_7cf53 9 = .ok (.iload_n 1, 1) := by decide +kernel
theorem dJ9_max_7cf53_10 : decode cJ9_max_7cf53 10 = .ok (.ireturn, 1) := by decide +kernel
theorem dJ9_min_7cf53_0 : decode cJ9_min_7cf53 0 = .ok (.iload_n 0, 1) := by decide +kernel
theorem dJ9_min_7cf53_1 : decode cJ9_min_7cf53 1 = .ok (.iload_n 1, 1) := by decide +kernel
theorem dJ9_min_7cf53_2 : decode cJ9_min_7cf53 2 = .ok (.if_icmp .gt 7, 3) := by decide +kernel
theorem dJ9_min_7cf53_5 : decode cJ9_min_7cf53 5 = .ok (.iload_n 0, 1) := by decide +kernel
theorem dJ9_min_7cf53_6 : decode cJ9_min_7cf53 6 = .ok (.goto 4, 3) := by decide +kernel
theorem dJ9_min_7cf53_9 : decode cJ9_min_7cf53 9 = .ok (.iload_n 1, 1) := by decide +kernel
theorem dJ9_min_7cf53_10 : decode cJ9_min_7cf53 10 = .ok (.ireturn, 1) := by decide +kernel
theorem dL_law_0 : decode cL_law 0 = .ok (.new 7, 3) := by decide +kernel
theorem dL_law_3 : decode cL_law 3 = .ok (.dup, 1) := by decide +kernel
theorem dL_law_4 : decode cL_law 4 = .ok (.invokespecial 9, 3) := by decide +kernel
theorem dL_law_7 : decode cL_law 7 = .ok (.astore_n 1, 1) := by decide +kernel
theorem dL_law_8 : decode cL_law 8 = .ok (.new 10, 3) := by decide +kernel
theorem dL_law_11 : decode cL_law 11 = .ok (.dup, 1) := by decide +kernel
theorem dL_law_12 : decode cL_law 12 = .ok (.invokespecial 12, 3) := by decide +kernel
theorem dL_law_15 : decode cL_law 15 = .ok (.astore_n 2, 1) := by decide +kernel
theorem dL_law_16 : decode cL_law 16 = .ok (.iconst 0, 1) := by decide +kernel
theorem dL_law_17 : decode cL_law 17 = .ok (.istore_n 3, 1) := by decide +kernel
theorem dL_law_18 : decode cL_law 18 = .ok (.iload_n 3, 1) := by decide +kernel
theorem dL_law_19 : decode cL_law 19 = .ok (.aload_n 0, 1) := by decide +kernel
theorem dL_law_20 : decode cL_law 20 = .ok (.arraylength, 1) := by decide +kernel
theorem dL_law_21 : decode cL_law 21 = .ok (.iconst 4, 1) := by decide +kernel
theorem dL_law_22 : decode cL_law 22 = .ok (.isub, 1) := by decide +kernel
theorem dL_law_23 : decode cL_law 23 = .ok (.if_icmp .gt 694, 3) := by decide +kernel
theorem dL_law_26 : decode cL_law 26 = .ok (.aload_n 0, 1) := by decide +kernel
theorem dL_law_27 : decode cL_law 27 = .ok (.iload_n 3, 1) := by decide +kernel
theorem dL_law_28 : decode cL_law 28 = .ok (.iaload, 1) := by decide +kernel
theorem dL_law_29 : decode cL_law 29 = .ok (.bipush 31, 2) := by decide +kernel
theorem dL_law_31 : decode cL_law 31 = .ok (.iand, 1) := by decide +kernel
theorem dL_law_32 : decode cL_law 32 = .ok (.tableswitch 679 0 22 #[108, 141, 174, 217, 240, 263, 296, 339, 352, 375, 400, 413, 426, 439, 452, 485, 508, 531, 544, 567, 600, 633, 656], 108) := by decide +kernel
theorem dL_law_140 : decode cL_law 140 = .ok (.aload_n 1, 1) := by decide +kernel
theorem dL_law_141 : decode cL_law 141 = .ok (.aload_n 0, 1) := by decide +kernel
theorem dL_law_142 : decode cL_law 142 = .ok (.iload_n 3, 1) := by decide +kernel
theorem dL_law_143 : decode cL_law 143 = .ok (.iconst 1, 1) := by decide +kernel
theorem dL_law_144 : decode cL_law 144 = .ok (.iadd, 1) := by decide +kernel
theorem dL_law_145 : decode cL_law 145 = .ok (.iaload, 1) := by decide +kernel
theorem dL_law_146 : decode cL_law 146 = .ok (.aload_n 0, 1) := by decide +kernel
theorem dL_law_147 : decode cL_law 147 = .ok (.iload_n 3, 1) := by decide +kernel
theorem dL_law_148 : decode cL_law 148 = .ok (.iconst 2, 1) := by decide +kernel
theorem dL_law_149 : decode cL_law 149 = .ok (.iadd, 1) := by decide +kernel
theorem dL_law_150 : decode cL_law 150 = .ok (.iaload, 1) := by decide +kernel
theorem dL_law_151 : decode cL_law 151 = .ok (.invokevirtual 13, 3) := by decide +kernel
theorem dL_law_154 : decode cL_law 154 = .ok (.aload_n 2, 1) := by decide +kernel
theorem dL_law_155 : decode cL_law 155 = .ok (.aload_n 0, 1) := by decide +kernel
theorem dL_law_156 : decode cL_law 156 = .ok (.iload_n 3, 1) := by decide +kernel
theorem dL_law_157 : decode cL_law 157 = .ok (.iconst 1, 1) := by decide +kernel
theorem dL_law_158 : decode cL_law 158 = .ok (.iadd, 1) := by decide +kernel
theorem dL_law_159 : decode cL_law 159 = .ok (.iaload, 1) := by decide +kernel
theorem dL_law_160 : decode cL_law 160 = .ok (.aload_n 0, 1) := by decide +kernel
theorem dL_law_161 : decode cL_law 161 = .ok (.iload_n 3, 1) := by decide +kernel
theorem dL_law_162 : decode cL_law 162 = .ok (.iconst 2, 1) := by decide +kernel
theorem dL_law_163 : decode cL_law 163 = .ok (.iadd, 1) := by decide +kernel
theorem dL_law_164 : decode cL_law 164 = .ok (.iaload, 1) := by decide +kernel
theorem dL_law_165 : decode cL_law 165 = .ok (.invokevirtual 17, 3) := by decide +kernel
theorem dL_law_168 : decode cL_law 168 = .ok (.if_icmp .eq 543, 3) := by decide +kernel
theorem dL_law_171 : decode cL_law 171 = .ok (.iconst 0, 1) := by decide +kernel
theorem dL_law_172 : decode cL_law 172 = .ok (.ireturn, 1) := by decide +kernel
theorem dL_law_173 : decode cL_law 173 = .ok (.aload_n 1, 1) := by decide +kernel
theorem dL_law_174 : decode cL_law 174 = .ok (.aload_n 0, 1) := by decide +kernel
theorem dL_law_175 : decode cL_law 175 = .ok (.iload_n 3, 1) := by decide +kernel
theorem dL_law_176 : decode cL_law 176 = .ok (.iconst 1, 1) := by decide +kernel
theorem dL_law_177 : decode cL_law 177 = .ok (.iadd, 1) := by decide +kernel
theorem dL_law_178 : decode cL_law 178 = .ok (.iaload, 1) := by decide +kernel
theorem dL_law_179 : decode cL_law 179 = .ok (.aload_n 0, 1) := by decide +kernel
theorem dL_law_180 : decode cL_law 180 = .ok (.iload_n 3, 1) := by decide +kernel
theorem dL_law_181 : decode cL_law 181 = .ok (.iconst 2, 1) := by decide +kernel
theorem dL_law_182 : decode cL_law 182 = .ok (.iadd, 1) := by decide +kernel
theorem dL_law_183 : decode cL_law 183 = .ok (.iaload, 1) := by decide +kernel
theorem dL_law_184 : decode cL_law 184 = .ok (.invokevirtual 18, 3) := by decide +kernel
theorem dL_law_187 : decode cL_law 187 = .ok (.aload_n 2, 1) := by decide +kernel
theorem dL_law_188 : decode cL_law 188 = .ok (.aload_n 0, 1) := by decide +kernel
theorem dL_law_189 : decode cL_law 189 = .ok (.iload_n 3, 1) := by decide +kernel
theorem dL_law_190 : decode cL_law 190 = .ok (.iconst 1, 1) := by decide +kernel
theorem dL_law_191 : decode cL_law 191 = .ok (.iadd, 1) := by decide +kernel
theorem dL_law_192 : decode cL_law 192 = .ok (.iaload, 1) := by decide +kernel
theorem dL_law_193 : decode cL_law 193 = .ok (.aload_n 0, 1) := by decide +kernel
theorem dL_law_194 : decode cL_law 194 = .ok (.iload_n 3, 1) := by decide +kernel
theorem dL_law_195 : decode cL_law 195 = .ok (.iconst 2, 1) := by decide +kernel
theorem dL_law_196 : decode cL_law 196 = .ok (.iadd, 1) := by decide +kernel
theorem dL_law_197 : decode cL_law 197 = .ok (.iaload, 1) := by decide +kernel
theorem dL_law_198 : decode cL_law 198 = .ok (.invokevirtual 21, 3) := by decide +kernel
theorem dL_law_201 : decode cL_law 201 = .ok (.if_icmp .eq 510, 3) := by decide +kernel
theorem dL_law_204 : decode cL_law 204 = .ok (.iconst 0, 1) := by decide +kernel
theorem dL_law_205 : decode cL_law 205 = .ok (.ireturn, 1) := by decide +kernel
theorem dL_law_206 : decode cL_law 206 = .ok (.aload_n 1, 1) := by decide +kernel
theorem dL_law_207 : decode cL_law 207 = .ok (.aload_n 0, 1) := by decide +kernel
theorem dL_law_208 : decode cL_law 208 = .ok (.iload_n 3, 1) := by decide +kernel
theorem dL_law_209 : decode cL_law 209 = .ok (.iconst 1, 1) := by decide +kernel
theorem dL_law_210 : decode cL_law 210 = .ok (.iadd, 1) := by decide +kernel
theorem dL_law_211 : decode cL_law 211 = .ok (.iaload, 1) := by decide +kernel
theorem dL_law_212 : decode cL_law 212 = .ok (.aload_n 0, 1) := by decide +kernel
theorem dL_law_213 : decode cL_law 213 = .ok (.iload_n 3, 1) := by decide +kernel
theorem dL_law_214 : decode cL_law 214 = .ok (.iconst 2, 1) := by decide +kernel
theorem dL_law_215 : decode cL_law 215 = .ok (.iadd, 1) := by decide +kernel
theorem dL_law_216 : decode cL_law 216 = .ok (.iaload, 1) := by decide +kernel
theorem dL_law_217 : decode cL_law 217 = .ok (.aload_n 0, 1) := by decide +kernel
theorem dL_law_218 : decode cL_law 218 = .ok (.iload_n 3, 1) := by decide +kernel
theorem dL_law_219 : decode cL_law 219 = .ok (.iconst 3, 1) := by decide +kernel
theorem dL_law_220 : decode cL_law 220 = .ok (.iadd, 1) := by decide +kernel
theorem dL_law_221 : decode cL_law 221 = .ok (.iaload, 1) := by decide +kernel
theorem dL_law_222 : decode cL_law 222 = .ok (.invokevirtual 22, 3) := by decide +kernel
theorem dL_law_225 : decode cL_law 225 = .ok (.aload_n 2, 1) := by decide +kernel
theorem dL_law_226 : decode cL_law 226 = .ok (.aload_n 0, 1) := by decide +kernel
theorem dL_law_227 : decode cL_law 227 = .ok (.iload_n 3, 1) := by decide +kernel
theorem dL_law_228 : decode cL_law 228 = .ok (.iconst 1, 1) := by decide +kernel
theorem dL_law_229 : decode cL_law 229 = .ok (.iadd, 1) := by decide +kernel
theorem dL_law_230 : decode cL_law 230 = .ok (.iaload, 1) := by decide +kernel
theorem dL_law_231 : decode cL_law 231 = .ok (.aload_n 0, 1) := by decide +kernel
theorem dL_law_232 : decode cL_law 232 = .ok (.iload_n 3, 1) := by decide +kernel
theorem dL_law_233 : decode cL_law 233 = .ok (.iconst 2, 1) := by decide +kernel
theorem dL_law_234 : decode cL_law 234 = .ok (.iadd, 1) := by decide +kernel
theorem dL_law_235 : decode cL_law 235 = .ok (.iaload, 1) := by decide +kernel
theorem dL_law_236 : decode cL_law 236 = .ok (.aload_n 0, 1) := by decide +kernel
theorem dL_law_237 : decode cL_law 237 = .ok (.iload_n 3, 1) := by decide +kernel
theorem dL_law_238 : decode cL_law 238 = .ok (.iconst 3, 1) := by decide +kernel
theorem dL_law_239 : decode cL_law 239 = .ok (.iadd, 1) := by decide +kernel
theorem dL_law_240 : decode cL_law 240 = .ok (.iaload, 1) := by decide +kernel
theorem dL_law_241 : decode cL_law 241 = .ok (.invokevirtual 26, 3) := by decide +kernel
theorem dL_law_244 : decode cL_law 244 = .ok (.if_icmp .eq 467, 3) := by decide +kernel
theorem dL_law_247 : decode cL_law 247 = .ok (.iconst 0, 1) := by decide +kernel
theorem dL_law_248 : decode cL_law 248 = .ok (.ireturn, 1) := by decide +kernel
theorem dL_law_249 : decode cL_law 249 = .ok (.aload_n 1, 1) := by decide +kernel
theorem dL_law_250 : decode cL_law 250 = .ok (.aload_n 0, 1) := by decide +kernel
theorem dL_law_251 : decode cL_law 251 = .ok (.iload_n 3, 1) := by decide +kernel
theorem dL_law_252 : decode cL_law 252 = .ok (.iconst 1, 1) := by decide +kernel
theorem dL_law_253 : decode cL_law 253 = .ok (.iadd, 1) := by decide +kernel
theorem dL_law_254 : decode cL_law 254 = .ok (.iaload, 1) := by decide +kernel
theorem dL_law_255 : decode cL_law 255 = .ok (.invokevirtual 27, 3) := by decide +kernel
theorem dL_law_258 : decode cL_law 258 = .ok (.aload_n 2, 1) := by decide +kernel
theorem dL_law_259 : decode cL_law 259 = .ok (.aload_n 0, 1) := by decide +kernel
theorem dL_law_260 : decode cL_law 260 = .ok (.iload_n 3, 1) := by decide +kernel
theorem dL_law_261 : decode cL_law 261 = .ok (.iconst 1, 1) := by decide +kernel
theorem dL_law_262 : decode cL_law 262 = .ok (.iadd, 1) := by decide +kernel
theorem dL_law_263 : decode cL_law 263 = .ok (.iaload, 1) := by decide +kernel
theorem dL_law_264 : decode cL_law 264 = .ok (.invokevirtual 31, 3) := by decide +kernel
theorem dL_law_267 : decode cL_law 267 = .ok (.if_icmp .eq 444, 3) := by decide +kernel
theorem dL_law_270 : decode cL_law 270 = .ok (.iconst 0, 1) := by decide +kernel
theorem dL_law_271 : decode cL_law 271 = .ok (.ireturn, 1) := by decide +kernel
theorem dL_law_272 : decode cL_law 272 = .ok (.aload_n 1, 1) := by decide +kernel
theorem dL_law_273 : decode cL_law 273 = .ok (.aload_n 0, 1) := by decide +kernel
theorem dL_law_274 : decode cL_law 274 = .ok (.iload_n 3, 1) := by decide +kernel
theorem dL_law_275 : decode cL_law 275 = .ok (.iconst 1, 1) := by decide +kernel
theorem dL_law_276 : decode cL_law 276 = .ok (.iadd, 1) := by decide +kernel
theorem dL_law_277 : decode cL_law 277 = .ok (.iaload, 1) := by decide +kernel
theorem dL_law_278 : decode cL_law 278 = .ok (.invokevirtual 32, 3) := by decide +kernel
theorem dL_law_281 : decode cL_law 281 = .ok (.aload_n 2, 1) := by decide +kernel
theorem dL_law_282 : decode cL_law 282 = .ok (.aload_n 0, 1) := by decide +kernel
theorem dL_law_283 : decode cL_law 283 = .ok (.iload_n 3, 1) := by decide +kernel
theorem dL_law_284 : decode cL_law 284 = .ok (.iconst 1, 1) := by decide +kernel
theorem dL_law_285 : decode cL_law 285 = .ok (.iadd, 1) := by decide +kernel
theorem dL_law_286 : decode cL_law 286 = .ok (.iaload, 1) := by decide +kernel
theorem dL_law_287 : decode cL_law 287 = .ok (.invokevirtual 35, 3) := by decide +kernel
theorem dL_law_290 : decode cL_law 290 = .ok (.if_icmp .eq 421, 3) := by decide +kernel
theorem dL_law_293 : decode cL_law 293 = .ok (.iconst 0, 1) := by decide +kernel
theorem dL_law_294 : decode cL_law 294 = .ok (.ireturn, 1) := by decide +kernel
theorem dL_law_295 : decode cL_law 295 = .ok (.aload_n 1, 1) := by decide +kernel
theorem dL_law_296 : decode cL_law 296 = .ok (.aload_n 0, 1) := by decide +kernel
theorem dL_law_297 : decode cL_law 297 = .ok (.iload_n 3, 1) := by decide +kernel
theorem dL_law_298 : decode cL_law 298 = .ok (.iconst 1, 1) := by decide +kernel
theorem dL_law_299 : decode cL_law 299 = .ok (.iadd, 1) := by decide +kernel
theorem dL_law_300 : decode cL_law 300 = .ok (.iaload, 1) := by decide +kernel
theorem dL_law_301 : decode cL_law 301 = .ok (.aload_n 0, 1) := by decide +kernel
theorem dL_law_302 : decode cL_law 302 = .ok (.iload_n 3, 1) := by decide +kernel
theorem dL_law_303 : decode cL_law 303 = .ok (.iconst 2, 1) := by decide +kernel
theorem dL_law_304 : decode cL_law 304 = .ok (.iadd, 1) := by decide +kernel
theorem dL_law_305 : decode cL_law 305 = .ok (.iaload, 1) := by decide +kernel
theorem dL_law_306 : decode cL_law 306 = .ok (.invokevirtual 36, 3) := by decide +kernel
theorem dL_law_309 : decode cL_law 309 = .ok (.aload_n 2, 1) := by decide +kernel
theorem dL_law_310 : decode cL_law 310 = .ok (.aload_n 0, 1) := by decide +kernel
theorem dL_law_311 : decode cL_law 311 = .ok (.iload_n 3, 1) := by decide +kernel
theorem dL_law_312 : decode cL_law 312 = .ok (.iconst 1, 1) := by decide +kernel
theorem dL_law_313 : decode cL_law 313 = .ok (.iadd, 1) := by decide +kernel
theorem dL_law_314 : decode cL_law 314 = .ok (.iaload, 1) := by decide +kernel
theorem dL_law_315 : decode cL_law 315 = .ok (.aload_n 0, 1) := by decide +kernel
theorem dL_law_316 : decode cL_law 316 = .ok (.iload_n 3, 1) := by decide +kernel
theorem dL_law_317 : decode cL_law 317 = .ok (.iconst 2, 1) := by decide +kernel
theorem dL_law_318 : decode cL_law 318 = .ok (.iadd, 1) := by decide +kernel
theorem dL_law_319 : decode cL_law 319 = .ok (.iaload, 1) := by decide +kernel
theorem dL_law_320 : decode cL_law 320 = .ok (.invokevirtual 39, 3) := by decide +kernel
theorem dL_law_323 : decode cL_law 323 = .ok (.if_icmp .eq 388, 3) := by decide +kernel
theorem dL_law_326 : decode cL_law 326 = .ok (.iconst 0, 1) := by decide +kernel
theorem dL_law_327 : decode cL_law 327 = .ok (.ireturn, 1) := by decide +kernel
theorem dL_law_328 : decode cL_law 328 = .ok (.aload_n 1, 1) := by decide +kernel
theorem dL_law_329 : decode cL_law 329 = .ok (.aload_n 0, 1) := by decide +kernel
theorem dL_law_330 : decode cL_law 330 = .ok (.iload_n 3, 1) := by decide +kernel
theorem dL_law_331 : decode cL_law 331 = .ok (.iconst 1, 1) := by decide +kernel
theorem dL_law_332 : decode cL_law 332 = .ok (.iadd, 1) := by decide +kernel
theorem dL_law_333 : decode cL_law 333 = .ok (.iaload, 1) := by decide +kernel
theorem dL_law_334 : decode cL_law 334 = .ok (.aload_n 0, 1) := by decide +kernel
theorem dL_law_335 : decode cL_law 335 = .ok (.iload_n 3, 1) := by decide +kernel
theorem dL_law_336 : decode cL_law 336 = .ok (.iconst 2, 1) := by decide +kernel
theorem dL_law_337 : decode cL_law 337 = .ok (.iadd, 1) := by decide +kernel
theorem dL_law_338 : decode cL_law 338 = .ok (.iaload, 1) := by decide +kernel
theorem dL_law_339 : decode cL_law 339 = .ok (.aload_n 0, 1) := by decide +kernel
theorem dL_law_340 : decode cL_law 340 = .ok (.iload_n 3, 1) := by decide +kernel
theorem dL_law_341 : decode cL_law 341 = .ok (.iconst 3, 1) := by decide +kernel
theorem dL_law_342 : decode cL_law 342 = .ok (.iadd, 1) := by decide +kernel
theorem dL_law_343 : decode cL_law 343 = .ok (.iaload, 1) := by decide +kernel
theorem dL_law_344 : decode cL_law 344 = .ok (.invokevirtual 40, 3) := by decide +kernel
theorem dL_law_347 : decode cL_law 347 = .ok (.aload_n 2, 1) := by decide +kernel
theorem dL_law_348 : decode cL_law 348 = .ok (.aload_n 0, 1) := by decide +kernel
theorem dL_law_349 : decode cL_law 349 = .ok (.iload_n 3, 1) := by decide +kernel
theorem dL_law_350 : decode cL_law 350 = .ok (.iconst 1, 1) := by decide +kernel
theorem dL_law_351 : decode cL_law 351 = .ok (.iadd, 1) := by decide +kernel
theorem dL_law_352 : decode cL_law 352 = .ok (.iaload, 1) := by decide +kernel
theorem dL_law_353 : decode cL_law 353 = .ok (.aload_n 0, 1) := by decide +kernel
theorem dL_law_354 : decode cL_law 354 = .ok (.iload_n 3, 1) := by decide +kernel
theorem dL_law_355 : decode cL_law 355 = .ok (.iconst 2, 1) := by decide +kernel
theorem dL_law_356 : decode cL_law 356 = .ok (.iadd, 1) := by decide +kernel
theorem dL_law_357 : decode cL_law 357 = .ok (.iaload, 1) := by decide +kernel
theorem dL_law_358 : decode cL_law 358 = .ok (.aload_n 0, 1) := by decide +kernel
theorem dL_law_359 : decode cL_law 359 = .ok (.iload_n 3, 1) := by decide +kernel
theorem dL_law_360 : decode cL_law 360 = .ok (.iconst 3, 1) := by decide +kernel
theorem dL_law_361 : decode cL_law 361 = .ok (.iadd, 1) := by decide +kernel
theorem dL_law_362 : decode cL_law 362 = .ok (.iaload, 1) := by decide +kernel
theorem dL_law_363 : decode cL_law 363 = .ok (.invokevirtual 43, 3) := by decide +kernel
theorem dL_law_366 : decode cL_law 366 = .ok (.if_icmp .eq 345, 3) := by decide +kernel
theorem dL_law_369 : decode cL_law 369 = .ok (.iconst 0, 1) := by decide +kernel
theorem dL_law_370 : decode cL_law 370 = .ok (.ireturn, 1) := by decide +kernel
theorem dL_law_371 : decode cL_law 371 = .ok (.aload_n 1, 1) := by decide +kernel
theorem dL_law_372 : decode cL_law 372 = .ok (.invokevirtual 44, 3) := by decide +kernel
theorem dL_law_375 : decode cL_law 375 = .ok (.aload_n 2, 1) := by decide +kernel
theorem dL_law_376 : decode cL_law 376 = .ok (.invokevirtual 48, 3) := by decide +kernel
theorem dL_law_379 : decode cL_law 379 = .ok (.if_icmp .eq 332, 3) := by decide +kernel
theorem dL_law_382 : decode cL_law 382 = .ok (.iconst 0, 1) := by decide +kernel
theorem dL_law_383 : decode cL_law 383 = .ok (.ireturn, 1) := by decide +kernel
theorem dL_law_384 : decode cL_law 384 = .ok (.aload_n 1, 1) := by decide +kernel
theorem dL_law_385 : decode cL_law 385 = .ok (.aload_n 0, 1) := by decide +kernel
theorem dL_law_386 : decode cL_law 386 = .ok (.iload_n 3, 1) := by decide +kernel
theorem dL_law_387 : decode cL_law 387 = .ok (.iconst 1, 1) := by decide +kernel
theorem dL_law_388 : decode cL_law 388 = .ok (.iadd, 1) := by decide +kernel
theorem dL_law_389 : decode cL_law 389 = .ok (.iaload, 1) := by decide +kernel
theorem dL_law_390 : decode cL_law 390 = .ok (.invokevirtual 49, 3) := by decide +kernel
theorem dL_law_393 : decode cL_law 393 = .ok (.aload_n 2, 1) := by decide +kernel
theorem dL_law_394 : decode cL_law 394 = .ok (.aload_n 0, 1) := by decide +kernel
theorem dL_law_395 : decode cL_law 395 = .ok (.iload_n 3, 1) := by decide +kernel
theorem dL_law_396 : decode cL_law 396 = .ok (.iconst 1, 1) := by decide +kernel
theorem dL_law_397 : decode cL_law 397 = .ok (.iadd, 1) := by decide +kernel
theorem dL_law_398 : decode cL_law 398 = .ok (.iaload, 1) := by decide +kernel
theorem dL_law_399 : decode cL_law 399 = .ok (.invokevirtual 52, 3) := by decide +kernel
theorem dL_law_402 : decode cL_law 402 = .ok (.if_icmp .eq 309, 3) := by decide +kernel
theorem dL_law_405 : decode cL_law 405 = .ok (.iconst 0, 1) := by decide +kernel
theorem dL_law_406 : decode cL_law 406 = .ok (.ireturn, 1) := by decide +kernel
theorem dL_law_407 : decode cL_law 407 = .ok (.aload_n 1, 1) := by decide +kernel
theorem dL_law_408 : decode cL_law 408 = .ok (.aload_n 0, 1) := by decide +kernel
theorem dL_law_409 : decode cL_law 409 = .ok (.iload_n 3, 1) := by decide +kernel
theorem dL_law_410 : decode cL_law 410 = .ok (.iconst 1, 1) := by decide +kernel
theorem dL_law_411 : decode cL_law 411 = .ok (.iadd, 1) := by decide +kernel
theorem dL_law_412 : decode cL_law 412 = .ok (.iaload, 1) := by decide +kernel
theorem dL_law_413 : decode cL_law 413 = .ok (.i2c, 1) := by decide +kernel
theorem dL_law_414 : decode cL_law 414 = .ok (.invokevirtual 53, 3) := by decide +kernel
theorem dL_law_417 : decode cL_law 417 = .ok (.aload_n 2, 1) := by decide +kernel
theorem dL_law_418 : decode cL_law 418 = .ok (.aload_n 0, 1) := by decide +kernel
theorem dL_law_419 : decode cL_law 419 = .ok (.iload_n 3, 1) := by decide +kernel
theorem dL_law_420 : decode cL_law 420 = .ok (.iconst 1, 1) := by decide +kernel
theorem dL_law_421 : decode cL_law 421 = .ok (.iadd, 1) := by decide +kernel
theorem dL_law_422 : decode cL_law 422 = .ok (.iaload, 1) := by decide +kernel
theorem dL_law_423 : decode cL_law 423 = .ok (.i2c, 1) := by decide +kernel
theorem dL_law_424 : decode cL_law 424 = .ok (.invokevirtual 57, 3) := by decide +kernel
theorem dL_law_427 : decode cL_law 427 = .ok (.if_icmp .eq 284, 3) := by decide +kernel
theorem dL_law_430 : decode cL_law 430 = .ok (.iconst 0, 1) := by decide +kernel
theorem dL_law_431 : decode cL_law 431 = .ok (.ireturn, 1) := by decide +kernel
theorem dL_law_432 : decode cL_law 432 = .ok (.aload_n 1, 1) := by decide +kernel
theorem dL_law_433 : decode cL_law 433 = .ok (.invokevirtual 58, 3) := by decide +kernel
theorem dL_law_436 : decode cL_law 436 = .ok (.aload_n 2, 1) := by decide +kernel
theorem dL_law_437 : decode cL_law 437 = .ok (.invokevirtual 61, 3) := by decide +kernel
theorem dL_law_440 : decode cL_law 440 = .ok (.if_icmp .eq 271, 3) := by decide +kernel
theorem dL_law_443 : decode cL_law 443 = .ok (.iconst 0, 1) := by decide +kernel
theorem dL_law_444 : decode cL_law 444 = .ok (.ireturn, 1) := by decide +kernel
theorem dL_law_445 : decode cL_law 445 = .ok (.aload_n 1, 1) := by decide +kernel
theorem dL_law_446 : decode cL_law 446 = .ok (.invokevirtual 62, 3) := by decide +kernel
theorem dL_law_449 : decode cL_law 449 = .ok (.aload_n 2, 1) := by decide +kernel
theorem dL_law_450 : decode cL_law 450 = .ok (.invokevirtual 65, 3) := by decide +kernel
theorem dL_law_453 : decode cL_law 453 = .ok (.if_icmp .eq 258, 3) := by decide +kernel
theorem dL_law_456 : decode cL_law 456 = .ok (.iconst 0, 1) := by decide +kernel
theorem dL_law_457 : decode cL_law 457 = .ok (.ireturn, 1) := by decide +kernel
theorem dL_law_458 : decode cL_law 458 = .ok (.aload_n 1, 1) := by decide +kernel
theorem dL_law_459 : decode cL_law 459 = .ok (.invokevirtual 66, 3) := by decide +kernel
theorem dL_law_462 : decode cL_law 462 = .ok (.aload_n 2, 1) := by decide +kernel
theorem dL_law_463 : decode cL_law 463 = .ok (.invokevirtual 69, 3) := by decide +kernel
theorem dL_law_466 : decode cL_law 466 = .ok (.if_icmp .eq 245, 3) := by decide +kernel
theorem dL_law_469 : decode cL_law 469 = .ok (.iconst 0, 1) := by decide +kernel
theorem dL_law_470 : decode cL_law 470 = .ok (.ireturn, 1) := by decide +kernel
theorem dL_law_471 : decode cL_law 471 = .ok (.aload_n 1, 1) := by decide +kernel
theorem dL_law_472 : decode cL_law 472 = .ok (.invokevirtual 70, 3) := by decide +kernel
theorem dL_law_475 : decode cL_law 475 = .ok (.aload_n 2, 1) := by decide +kernel
theorem dL_law_476 : decode cL_law 476 = .ok (.invokevirtual 73, 3) := by decide +kernel
theorem dL_law_479 : decode cL_law 479 = .ok (.if_icmp .eq 232, 3) := by decide +kernel
theorem dL_law_482 : decode cL_law 482 = .ok (.iconst 0, 1) := by decide +kernel
theorem dL_law_483 : decode cL_law 483 = .ok (.ireturn, 1) := by decide +kernel
theorem dL_law_484 : decode cL_law 484 = .ok (.aload_n 1, 1) := by decide +kernel
theorem dL_law_485 : decode cL_law 485 = .ok (.aload_n 0, 1) := by decide +kernel
theorem dL_law_486 : decode cL_law 486 = .ok (.iload_n 3, 1) := by decide +kernel
theorem dL_law_487 : decode cL_law 487 = .ok (.iconst 1, 1) := by decide +kernel
theorem dL_law_488 : decode cL_law 488 = .ok (.iadd, 1) := by decide +kernel
theorem dL_law_489 : decode cL_law 489 = .ok (.iaload, 1) := by decide +kernel
theorem dL_law_490 : decode cL_law 490 = .ok (.aload_n 0, 1) := by decide +kernel
theorem dL_law_491 : decode cL_law 491 = .ok (.iload_n 3, 1) := by decide +kernel
theorem dL_law_492 : decode cL_law 492 = .ok (.iconst 2, 1) := by decide +kernel
theorem dL_law_493 : decode cL_law 493 = .ok (.iadd, 1) := by decide +kernel
theorem dL_law_494 : decode cL_law 494 = .ok (.iaload, 1) := by decide +kernel
theorem dL_law_495 : decode cL_law 495 = .ok (.invokevirtual 74, 3) := by decide +kernel
theorem dL_law_498 : decode cL_law 498 = .ok (.aload_n 2, 1) := by decide +kernel
theorem dL_law_499 : decode cL_law 499 = .ok (.aload_n 0, 1) := by decide +kernel
theorem dL_law_500 : decode cL_law 500 = .ok (.iload_n 3, 1) := by decide +kernel
theorem dL_law_501 : decode cL_law 501 = .ok (.iconst 1, 1) := by decide +kernel
theorem dL_law_502 : decode cL_law 502 = .ok (.iadd, 1) := by decide +kernel
theorem dL_law_503 : decode cL_law 503 = .ok (.iaload, 1) := by decide +kernel
theorem dL_law_504 : decode cL_law 504 = .ok (.aload_n 0, 1) := by decide +kernel
theorem dL_law_505 : decode cL_law 505 = .ok (.iload_n 3, 1) := by decide +kernel
theorem dL_law_506 : decode cL_law 506 = .ok (.iconst 2, 1) := by decide +kernel
theorem dL_law_507 : decode cL_law 507 = .ok (.iadd, 1) := by decide +kernel
theorem dL_law_508 : decode cL_law 508 = .ok (.iaload, 1) := by decide +kernel
theorem dL_law_509 : decode cL_law 509 = .ok (.invokevirtual 77, 3) := by decide +kernel
theorem dL_law_512 : decode cL_law 512 = .ok (.if_icmp .eq 199, 3) := by decide +kernel
theorem dL_law_515 : decode cL_law 515 = .ok (.iconst 0, 1) := by decide +kernel
theorem dL_law_516 : decode cL_law 516 = .ok (.ireturn, 1) := by decide +kernel
theorem dL_law_517 : decode cL_law 517 = .ok (.aload_n 1, 1) := by decide +kernel
theorem dL_law_518 : decode cL_law 518 = .ok (.aload_n 0, 1) := by decide +kernel
theorem dL_law_519 : decode cL_law 519 = .ok (.iload_n 3, 1) := by decide +kernel
theorem dL_law_520 : decode cL_law 520 = .ok (.iconst 1, 1) := by decide +kernel
theorem dL_law_521 : decode cL_law 521 = .ok (.iadd, 1) := by decide +kernel
theorem dL_law_522 : decode cL_law 522 = .ok (.iaload, 1) := by decide +kernel
theorem dL_law_523 : decode cL_law 523 = .ok (.invokevirtual 78, 3) := by decide +kernel
theorem dL_law_526 : decode cL_law 526 = .ok (.aload_n 2, 1) := by decide +kernel
theorem dL_law_527 : decode cL_law 527 = .ok (.aload_n 0, 1) := by decide +kernel
theorem dL_law_528 : decode cL_law 528 = .ok (.iload_n 3, 1) := by decide +kernel
theorem dL_law_529 : decode cL_law 529 = .ok (.iconst 1, 1) := by decide +kernel
theorem dL_law_530 : decode cL_law 530 = .ok (.iadd, 1) := by decide +kernel
theorem dL_law_531 : decode cL_law 531 = .ok (.iaload, 1) := by decide +kernel
theorem dL_law_532 : decode cL_law 532 = .ok (.invokevirtual 81, 3) := by decide +kernel
theorem dL_law_535 : decode cL_law 535 = .ok (.if_icmp .eq 176, 3) := by decide +kernel
theorem dL_law_538 : decode cL_law 538 = .ok (.iconst 0, 1) := by decide +kernel
theorem dL_law_539 : decode cL_law 539 = .ok (.ireturn, 1) := by decide +kernel
theorem dL_law_540 : decode cL_law 540 = .ok (.aload_n 1, 1) := by decide +kernel
theorem dL_law_541 : decode cL_law 541 = .ok (.aload_n 0, 1) := by decide +kernel
theorem dL_law_542 : decode cL_law 542 = .ok (.iload_n 3, 1) := by decide +kernel
theorem dL_law_543 : decode cL_law 543 = .ok (.iconst 1, 1) := by decide +kernel
theorem dL_law_544 : decode cL_law 544 = .ok (.iadd, 1) := by decide +kernel
theorem dL_law_545 : decode cL_law 545 = .ok (.iaload, 1) := by decide +kernel
theorem dL_law_546 : decode cL_law 546 = .ok (.invokevirtual 82, 3) := by decide +kernel
theorem dL_law_549 : decode cL_law 549 = .ok (.aload_n 2, 1) := by decide +kernel
theorem dL_law_550 : decode cL_law 550 = .ok (.aload_n 0, 1) := by decide +kernel
theorem dL_law_551 : decode cL_law 551 = .ok (.iload_n 3, 1) := by decide +kernel
theorem dL_law_552 : decode cL_law 552 = .ok (.iconst 1, 1) := by decide +kernel
theorem dL_law_553 : decode cL_law 553 = .ok (.iadd, 1) := by decide +kernel
theorem dL_law_554 : decode cL_law 554 = .ok (.iaload, 1) := by decide +kernel
theorem dL_law_555 : decode cL_law 555 = .ok (.invokevirtual 85, 3) := by decide +kernel
theorem dL_law_558 : decode cL_law 558 = .ok (.if_icmp .eq 153, 3) := by decide +kernel
theorem dL_law_561 : decode cL_law 561 = .ok (.iconst 0, 1) := by decide +kernel
theorem dL_law_562 : decode cL_law 562 = .ok (.ireturn, 1) := by decide +kernel
theorem dL_law_563 : decode cL_law 563 = .ok (.aload_n 1, 1) := by decide +kernel
theorem dL_law_564 : decode cL_law 564 = .ok (.invokevirtual 86, 3) := by decide +kernel
theorem dL_law_567 : decode cL_law 567 = .ok (.aload_n 2, 1) := by decide +kernel
theorem dL_law_568 : decode cL_law 568 = .ok (.invokevirtual 89, 3) := by decide +kernel
theorem dL_law_571 : decode cL_law 571 = .ok (.if_icmp .eq 140, 3) := by decide +kernel
theorem dL_law_574 : decode cL_law 574 = .ok (.iconst 0, 1) := by decide +kernel
theorem dL_law_575 : decode cL_law 575 = .ok (.ireturn, 1) := by decide +kernel
theorem dL_law_576 : decode cL_law 576 = .ok (.aload_n 1, 1) := by decide +kernel
theorem dL_law_577 : decode cL_law 577 = .ok (.aload_n 0, 1) := by decide +kernel
theorem dL_law_578 : decode cL_law 578 = .ok (.iload_n 3, 1) := by decide +kernel
theorem dL_law_579 : decode cL_law 579 = .ok (.iconst 1, 1) := by decide +kernel
theorem dL_law_580 : decode cL_law 580 = .ok (.iadd, 1) := by decide +kernel
theorem dL_law_581 : decode cL_law 581 = .ok (.iaload, 1) := by decide +kernel
theorem dL_law_582 : decode cL_law 582 = .ok (.invokevirtual 90, 3) := by decide +kernel
theorem dL_law_585 : decode cL_law 585 = .ok (.aload_n 2, 1) := by decide +kernel
theorem dL_law_586 : decode cL_law 586 = .ok (.aload_n 0, 1) := by decide +kernel
theorem dL_law_587 : decode cL_law 587 = .ok (.iload_n 3, 1) := by decide +kernel
theorem dL_law_588 : decode cL_law 588 = .ok (.iconst 1, 1) := by decide +kernel
theorem dL_law_589 : decode cL_law 589 = .ok (.iadd, 1) := by decide +kernel
theorem dL_law_590 : decode cL_law 590 = .ok (.iaload, 1) := by decide +kernel
theorem dL_law_591 : decode cL_law 591 = .ok (.invokevirtual 93, 3) := by decide +kernel
theorem dL_law_594 : decode cL_law 594 = .ok (.if_icmp .eq 117, 3) := by decide +kernel
theorem dL_law_597 : decode cL_law 597 = .ok (.iconst 0, 1) := by decide +kernel
theorem dL_law_598 : decode cL_law 598 = .ok (.ireturn, 1) := by decide +kernel
theorem dL_law_599 : decode cL_law 599 = .ok (.aload_n 1, 1) := by decide +kernel
theorem dL_law_600 : decode cL_law 600 = .ok (.aload_n 0, 1) := by decide +kernel
theorem dL_law_601 : decode cL_law 601 = .ok (.iload_n 3, 1) := by decide +kernel
theorem dL_law_602 : decode cL_law 602 = .ok (.iconst 1, 1) := by decide +kernel
theorem dL_law_603 : decode cL_law 603 = .ok (.iadd, 1) := by decide +kernel
theorem dL_law_604 : decode cL_law 604 = .ok (.iaload, 1) := by decide +kernel
theorem dL_law_605 : decode cL_law 605 = .ok (.aload_n 0, 1) := by decide +kernel
theorem dL_law_606 : decode cL_law 606 = .ok (.iload_n 3, 1) := by decide +kernel
theorem dL_law_607 : decode cL_law 607 = .ok (.iconst 2, 1) := by decide +kernel
theorem dL_law_608 : decode cL_law 608 = .ok (.iadd, 1) := by decide +kernel
theorem dL_law_609 : decode cL_law 609 = .ok (.iaload, 1) := by decide +kernel
theorem dL_law_610 : decode cL_law 610 = .ok (.invokevirtual 94, 3) := by decide +kernel
theorem dL_law_613 : decode cL_law 613 = .ok (.aload_n 2, 1) := by decide +kernel
theorem dL_law_614 : decode cL_law 614 = .ok (.aload_n 0, 1) := by decide +kernel
theorem dL_law_615 : decode cL_law 615 = .ok (.iload_n 3, 1) := by decide +kernel
theorem dL_law_616 : decode cL_law 616 = .ok (.iconst 1, 1) := by decide +kernel
theorem dL_law_617 : decode cL_law 617 = .ok (.iadd, 1) := by decide +kernel
theorem dL_law_618 : decode cL_law 618 = .ok (.iaload, 1) := by decide +kernel
theorem dL_law_619 : decode cL_law 619 = .ok (.aload_n 0, 1) := by decide +kernel
theorem dL_law_620 : decode cL_law 620 = .ok (.iload_n 3, 1) := by decide +kernel
theorem dL_law_621 : decode cL_law 621 = .ok (.iconst 2, 1) := by decide +kernel
theorem dL_law_622 : decode cL_law 622 = .ok (.iadd, 1) := by decide +kernel
theorem dL_law_623 : decode cL_law 623 = .ok (.iaload, 1) := by decide +kernel
theorem dL_law_624 : decode cL_law 624 = .ok (.invokevirtual 97, 3) := by decide +kernel
theorem dL_law_627 : decode cL_law 627 = .ok (.if_icmp .eq 84, 3) := by decide +kernel
theorem dL_law_630 : decode cL_law 630 = .ok (.iconst 0, 1) := by decide +kernel
theorem dL_law_631 : decode cL_law 631 = .ok (.ireturn, 1) := by decide +kernel
theorem dL_law_632 : decode cL_law 632 = .ok (.aload_n 1, 1) := by decide +kernel
theorem dL_law_633 : decode cL_law 633 = .ok (.aload_n 0, 1) := by decide +kernel
theorem dL_law_634 : decode cL_law 634 = .ok (.iload_n 3, 1) := by decide +kernel
theorem dL_law_635 : decode cL_law 635 = .ok (.iconst 1, 1) := by decide +kernel
theorem dL_law_636 : decode cL_law 636 = .ok (.iadd, 1) := by decide +kernel
theorem dL_law_637 : decode cL_law 637 = .ok (.iaload, 1) := by decide +kernel
theorem dL_law_638 : decode cL_law 638 = .ok (.aload_n 0, 1) := by decide +kernel
theorem dL_law_639 : decode cL_law 639 = .ok (.iload_n 3, 1) := by decide +kernel
theorem dL_law_640 : decode cL_law 640 = .ok (.iconst 2, 1) := by decide +kernel
theorem dL_law_641 : decode cL_law 641 = .ok (.iadd, 1) := by decide +kernel
theorem dL_law_642 : decode cL_law 642 = .ok (.iaload, 1) := by decide +kernel
theorem dL_law_643 : decode cL_law 643 = .ok (.invokevirtual 98, 3) := by decide +kernel
theorem dL_law_646 : decode cL_law 646 = .ok (.aload_n 2, 1) := by decide +kernel
theorem dL_law_647 : decode cL_law 647 = .ok (.aload_n 0, 1) := by decide +kernel
theorem dL_law_648 : decode cL_law 648 = .ok (.iload_n 3, 1) := by decide +kernel
theorem dL_law_649 : decode cL_law 649 = .ok (.iconst 1, 1) := by decide +kernel
theorem dL_law_650 : decode cL_law 650 = .ok (.iadd, 1) := by decide +kernel
theorem dL_law_651 : decode cL_law 651 = .ok (.iaload, 1) := by decide +kernel
theorem dL_law_652 : decode cL_law 652 = .ok (.aload_n 0, 1) := by decide +kernel
theorem dL_law_653 : decode cL_law 653 = .ok (.iload_n 3, 1) := by decide +kernel
theorem dL_law_654 : decode cL_law 654 = .ok (.iconst 2, 1) := by decide +kernel
theorem dL_law_655 : decode cL_law 655 = .ok (.iadd, 1) := by decide +kernel
theorem dL_law_656 : decode cL_law 656 = .ok (.iaload, 1) := by decide +kernel
theorem dL_law_657 : decode cL_law 657 = .ok (.invokevirtual 101, 3) := by decide +kernel
theorem dL_law_660 : decode cL_law 660 = .ok (.if_icmp .eq 51, 3) := by decide +kernel
theorem dL_law_663 : decode cL_law 663 = .ok (.iconst 0, 1) := by decide +kernel
theorem dL_law_664 : decode cL_law 664 = .ok (.ireturn, 1) := by decide +kernel
theorem dL_law_665 : decode cL_law 665 = .ok (.aload_n 1, 1) := by decide +kernel
theorem dL_law_666 : decode cL_law 666 = .ok (.aload_n 0, 1) := by decide +kernel
theorem dL_law_667 : decode cL_law 667 = .ok (.iload_n 3, 1) := by decide +kernel
theorem dL_law_668 : decode cL_law 668 = .ok (.iconst 1, 1) := by decide +kernel
theorem dL_law_669 : decode cL_law 669 = .ok (.iadd, 1) := by decide +kernel
theorem dL_law_670 : decode cL_law 670 = .ok (.iaload, 1) := by decide +kernel
theorem dL_law_671 : decode cL_law 671 = .ok (.invokevirtual 102, 3) := by decide +kernel
theorem dL_law_674 : decode cL_law 674 = .ok (.aload_n 2, 1) := by decide +kernel
theorem dL_law_675 : decode cL_law 675 = .ok (.aload_n 0, 1) := by decide +kernel
theorem dL_law_676 : decode cL_law 676 = .ok (.iload_n 3, 1) := by decide +kernel
theorem dL_law_677 : decode cL_law 677 = .ok (.iconst 1, 1) := by decide +kernel
theorem dL_law_678 : decode cL_law 678 = .ok (.iadd, 1) := by decide +kernel
theorem dL_law_679 : decode cL_law 679 = .ok (.iaload, 1) := by decide +kernel
theorem dL_law_680 : decode cL_law 680 = .ok (.invokevirtual 105, 3) := by decide +kernel
theorem dL_law_683 : decode cL_law 683 = .ok (.if_icmp .eq 28, 3) := by decide +kernel
theorem dL_law_686 : decode cL_law 686 = .ok (.iconst 0, 1) := by decide +kernel
theorem dL_law_687 : decode cL_law 687 = .ok (.ireturn, 1) := by decide +kernel
theorem dL_law_688 : decode cL_law 688 = .ok (.aload_n 1, 1) := by decide +kernel
theorem dL_law_689 : decode cL_law 689 = .ok (.aload_n 0, 1) := by decide +kernel
theorem dL_law_690 : decode cL_law 690 = .ok (.iload_n 3, 1) := by decide +kernel
theorem dL_law_691 : decode cL_law 691 = .ok (.iconst 1, 1) := by decide +kernel
theorem dL_law_692 : decode cL_law 692 = .ok (.iadd, 1) := by decide +kernel
theorem dL_law_693 : decode cL_law 693 = .ok (.iaload, 1) := by decide +kernel
theorem dL_law_694 : decode cL_law 694 = .ok (.invokevirtual 106, 3) := by decide +kernel
theorem dL_law_697 : decode cL_law 697 = .ok (.aload_n 2, 1) := by decide +kernel
theorem dL_law_698 : decode cL_law 698 = .ok (.aload_n 0, 1) := by decide +kernel
theorem dL_law_699 : decode cL_law 699 = .ok (.iload_n 3, 1) := by decide +kernel
theorem dL_law_700 : decode cL_law 700 = .ok (.iconst 1, 1) := by decide +kernel
theorem dL_law_701 : decode cL_law 701 = .ok (.iadd, 1) := by decide +kernel
theorem dL_law_702 : decode cL_law 702 = .ok (.iaload, 1) := by decide +kernel
theorem dL_law_703 : decode cL_law 703 = .ok (.invokevirtual 109, 3) := by decide +kernel
theorem dL_law_706 : decode cL_law 706 = .ok (.if_icmp .eq 5, 3) := by decide +kernel
theorem dL_law_709 : decode cL_law 709 = .ok (.iconst 0, 1) := by decide +kernel
theorem dL_law_710 : decode cL_law 710 = .ok (.ireturn, 1) := by decide +kernel
theorem dL_law_711 : decode cL_law 711 = .ok (.iinc 3 4, 3) := by decide +kernel
theorem dL_law_714 : decode cL_law 714 = .ok (.goto (-696), 3) := by decide +kernel
theorem dL_law_717 : decode cL_law 717 = .ok (.iconst 1, 1) := by decide +kernel
theorem dL_law_718 : decode cL_law 718 = .ok (.ireturn, 1) := by decide +kernel
end
section
/-! tables: methods by number, fields, calls, made cells, statics, constants; printed by wip/whole/gen/gen.py -/
def eYs_0 : List MethodName := [yX0_init, yX0_copyFrom, yX0_ticksOfNight, yX0_isNight, yX0_passTick, yX0_shine, yX0_burn, yX0_rest, yX0_turnFor, yX0_noteChange, yX0_countNightTick, yX0_receiveBoat, yX0_takeOldLampsOut, yX0_fillEmptySockets, yX0_lowestKindInStock, yX1_init, yX1_copyFrom, yX1_note, yX1_rowBack, yX2_init, yX2_record, yX2_takeBackInto, yX2_behindLatest, yX3_init, yX3_makeNew, yX3_remove, yX3_copyFrom, yX3_isThere, yX3_isBurntOut, yX3_isUsable, yX3_isFresh, yX3_left, yX3_current, yX3_wearBySwitchingOn, yX3_growsTiredByBurning, yX4_init, yX4_copyFrom, yX4_empty, yX4_rowOfTick, yX4_hasRoomFor, yX4_enter, yX4_rowOfPlace, yX4_boatsAheadOf, yX5_init, yX5_add, yX5_readInto, yX5_beginBoat, yX5_allows, yX5_allowsInTick, yX5_allowsAsKind, yX5_allowsAsLoad, yX6_at, yX6_write, yX6_copy, yX7_init, yX7_copyFrom, yX7_lampAt, yX7_burnsAt, yX7_isTurning, yX7_startTurn]
def eYs_1 : List MethodName := [yX7_goOn, yX7_nextSocket, yX7_socketOfRank, yX7_usableOnesAheadOf, yX7_lampsThere, yX7_lampsBurntOut, yX7_lampsTired, yX8_init, yX8_set, yX8_setNight, yX8_putIn, yX8_takeOut, yX8_turnTo, yX8_stock, yX8_boat, yX8_readPlan, yX8_pass, yX8_type, yX8_clearText, yX8_undo, yX8_keep, yX8_restore, yX8_lamp, yX8_wheel, yX8_tiredIn, yX8_darkIn, yX8_ranked, yX8_planned, yX8_event, yX8_count, yX8_setting, yX8_isFromTo, yX8_isSetting, yX8_isPlaceOfDay, yX8_isSocket, yX8_isKind, yX8_isLoad, yX8_oneIf, yX9_init, yX9_in, yX9_isSocket, yX9_lays, yX9_records, yX9_undo, yX9_keep, yX9_restore, yX9_of, yX9_puts, yX9_empties, yX9_isThere, yX9_comes, yX9_by, yX9_life, yX9_nominal, yX9_isOut, yX9_current, yX9_isBelow, yX9_isGood, yX9_found, yX9_next]
def eYs_2 : List MethodName := [yX9_happens, yX9_turns, yX9_isNight, yX9_burns, yX9_isLit, yX9_days, yX9_lowest, yX9_lands, yX9_passes, yX9_isFor, yX9_set, yX9_setNight, yX9_isKind, yX9_putIn, yX9_takeOut, yX9_turnTo, yX9_stock, yX9_placeOf, yX9_isPlanned, yX9_plans, yX9_boat, yX9_pass, yX9_type, yX9_clearText, yX9_sees, yX9_takes, yX9_digit, yX9_number, yX9_readsBoat, yX9_isText, yX9_unlike, yX9_readPlan, yX9_lamp, yX9_wheel, yX9_tiredIn, yX9_darkIn, yX9_left, yX9_ranked, yX9_planned, yX9_event, yX9_lamps, yX9_count, yX9_setting, yJ9_floorMod_7cf53, yJ9_max_7cf53, yJ9_min_7cf53, yL_law]
def eYs : List MethodName := eYs_0 ++ eYs_1 ++ eYs_2
def eBs_0 : List ByteArray := [cX0_init, cX0_copyFrom, cX0_ticksOfNight, cX0_isNight, cX0_passTick, cX0_shine, cX0_burn, cX0_rest, cX0_turnFor, cX0_noteChange, cX0_countNightTick, cX0_receiveBoat, cX0_takeOldLampsOut, cX0_fillEmptySockets, cX0_lowestKindInStock, cX1_init, cX1_copyFrom, cX1_note, cX1_rowBack, cX2_init, cX2_record, cX2_takeBackInto, cX2_behindLatest, cX3_init, cX3_makeNew, cX3_remove, cX3_copyFrom, cX3_isThere, cX3_isBurntOut, cX3_isUsable, cX3_isFresh, cX3_left, cX3_current, cX3_wearBySwitchingOn, cX3_growsTiredByBurning, cX4_init, cX4_copyFrom, cX4_empty, cX4_rowOfTick, cX4_hasRoomFor, cX4_enter, cX4_rowOfPlace, cX4_boatsAheadOf, cX5_init, cX5_add, cX5_readInto, cX5_beginBoat, cX5_allows, cX5_allowsInTick, cX5_allowsAsKind, cX5_allowsAsLoad, cX6_at, cX6_write, cX6_copy, cX7_init, cX7_copyFrom, cX7_lampAt, cX7_burnsAt, cX7_isTurning, cX7_startTurn]
def eBs_1 : List ByteArray := [cX7_goOn, cX7_nextSocket, cX7_socketOfRank, cX7_usableOnesAheadOf, cX7_lampsThere, cX7_lampsBurntOut, cX7_lampsTired, cX8_init, cX8_set, cX8_setNight, cX8_putIn, cX8_takeOut, cX8_turnTo, cX8_stock, cX8_boat, cX8_readPlan, cX8_pass, cX8_type, cX8_clearText, cX8_undo, cX8_keep, cX8_restore, cX8_lamp, cX8_wheel, cX8_tiredIn, cX8_darkIn, cX8_ranked, cX8_planned, cX8_event, cX8_count, cX8_setting, cX8_isFromTo, cX8_isSetting, cX8_isPlaceOfDay, cX8_isSocket, cX8_isKind, cX8_isLoad, cX8_oneIf, cX9_init, cX9_in, cX9_isSocket, cX9_lays, cX9_records, cX9_undo, cX9_keep, cX9_restore, cX9_of, cX9_puts, cX9_empties, cX9_isThere, cX9_comes, cX9_by, cX9_life, cX9_nominal, cX9_isOut, cX9_current, cX9_isBelow, cX9_isGood, cX9_found, cX9_next]
def eBs_2 : List ByteArray := [cX9_happens, cX9_turns, cX9_isNight, cX9_burns, cX9_isLit, cX9_days, cX9_lowest, cX9_lands, cX9_passes, cX9_isFor, cX9_set, cX9_setNight, cX9_isKind, cX9_putIn, cX9_takeOut, cX9_turnTo, cX9_stock, cX9_placeOf, cX9_isPlanned, cX9_plans, cX9_boat, cX9_pass, cX9_type, cX9_clearText, cX9_sees, cX9_takes, cX9_digit, cX9_number, cX9_readsBoat, cX9_isText, cX9_unlike, cX9_readPlan, cX9_lamp, cX9_wheel, cX9_tiredIn, cX9_darkIn, cX9_left, cX9_ranked, cX9_planned, cX9_event, cX9_lamps, cX9_count, cX9_setting, cJ9_floorMod_7cf53, cJ9_max_7cf53, cJ9_min_7cf53, cL_law]
def eBs : List ByteArray := eBs_0 ++ eBs_1 ++ eBs_2
def eNs_0 : List Nat := [1, 2, 1, 1, 4, 3, 3, 2, 3, 3, 2, 4, 5, 5, 2, 1, 2, 4, 2, 2, 3, 3, 2, 1, 3, 1, 2, 1, 1, 1, 1, 1, 2, 1, 5, 1, 2, 1, 3, 2, 5, 3, 4, 1, 2, 3, 1, 3, 3, 2, 4, 2, 3, 2, 2, 3, 3, 2, 1, 3]
def eNs_1 : List Nat := [1, 5, 3, 7, 3, 4, 4, 1, 4, 3, 5, 4, 2, 4, 4, 2, 4, 2, 2, 1, 1, 1, 4, 2, 7, 2, 2, 4, 4, 2, 2, 3, 1, 1, 1, 1, 1, 1, 2, 3, 1, 5, 2, 1, 1, 1, 3, 4, 2, 2, 4, 4, 2, 2, 2, 3, 2, 3, 4, 2]
def eNs_2 : List Nat := [4, 2, 2, 2, 3, 2, 1, 7, 7, 2, 4, 3, 1, 4, 2, 2, 3, 3, 3, 6, 4, 4, 2, 2, 3, 3, 3, 3, 4, 2, 5, 2, 3, 2, 3, 2, 2, 6, 3, 3, 5, 2, 2, 3, 2, 2, 4]
def eNs : List Nat := eNs_0 ++ eNs_1 ++ eNs_2
def eTs_0 : List (Option FieldType) := [none, none, some .int, some .boolean, some .boolean, some .boolean, some .boolean, none, none, none, none, none, none, some .int, some .int, none, none, none, some .int, none, none, none, some (.object "LampChanger$Beacon"), none, none, none, none, some .boolean, some .boolean, some .boolean, some .boolean, some .int, some .int, none, some .boolean, none, none, none, some .int, some .boolean, none, some .int, some .int, none, some .boolean, some .int, none, some .boolean, some .boolean, some .boolean, some .boolean, some .int, none, none, none, none, some (.object "LampChanger$Lamp"), some .boolean, some .boolean, none]
def eTs_1 : List (Option FieldType) := [none, some .int, some .int, some .int, some .int, some .int, some .int, none, some .int, some .int, some .int, some .int, some .int, some .int, some .int, some .int, some .int, some .int, some .int, some .int, some .int, some .int, some .int, some .int, some .int, some .int, some .int, some .int, some .int, some .int, some .int, some .boolean, some .boolean, some .boolean, some .boolean, some .boolean, some .boolean, some .int, none, some .boolean, some .boolean, none, none, some .int, some .int, some .int, some .int, none, none, some .boolean, none, some .int, some .int, some .int, some .boolean, some .int, some .boolean, some .boolean, some .int, some .int]
def eTs_2 : List (Option FieldType) := [none, none, some .boolean, none, some .boolean, none, some .int, none, some .boolean, some .boolean, some .int, some .int, some .boolean, some .int, some .int, some .int, some .int, some .int, some .boolean, none, some .int, some .int, some .int, some .int, some .boolean, some .boolean, some .int, some .int, some .boolean, some .boolean, some .int, some .int, some .int, some .int, some .int, some .int, some .int, some .int, some .int, some .int, some .int, some .int, some .int, some .int, some .int, some .int, some .boolean]
def eTs : List (Option FieldType) := eTs_0 ++ eTs_1 ++ eTs_2
def eOs_0 : List Nat := [0, 0, 0, 0, 0, 0, 0, 0, 0, 0, 0, 0, 0, 0, 0, 1, 1, 1, 1, 2, 2, 2, 2, 3, 3, 3, 3, 3, 3, 3, 3, 3, 3, 3, 3, 4, 4, 4, 4, 4, 4, 4, 4, 5, 5, 5, 5, 5, 5, 5, 5, 6, 6, 6, 7, 7, 7, 7, 7, 7]
def eOs_1 : List Nat := [7, 7, 7, 7, 7, 7, 7, 8, 8, 8, 8, 8, 8, 8, 8, 8, 8, 8, 8, 8, 8, 8, 8, 8, 8, 8, 8, 8, 8, 8, 8, 8, 8, 8, 8, 8, 8, 8, 9, 9, 9, 9, 9, 9, 9, 9, 9, 9, 9, 9, 9, 9, 9, 9, 9, 9, 9, 9, 9, 9]
def eOs_2 : List Nat := [9, 9, 9, 9, 9, 9, 9, 9, 9, 9, 9, 9, 9, 9, 9, 9, 9, 9, 9, 9, 9, 9, 9, 9, 9, 9, 9, 9, 9, 9, 9, 9, 9, 9, 9, 9, 9, 9, 9, 9, 9, 9, 9, 10, 10, 10, 12]
def eOs : List Nat := eOs_0 ++ eOs_1 ++ eOs_2
def eAs_0 : List Nat := [0, 1, 0, 0, 1, 0, 1, 0, 2, 2, 1, 0, 0, 0, 0, 0, 1, 3, 1, 0, 1, 1, 0, 0, 2, 0, 1, 0, 0, 0, 0, 0, 0, 0, 2, 0, 1, 0, 1, 1, 3, 1, 1, 0, 1, 1, 0, 2, 1, 1, 2, 2, 3, 2, 0, 1, 1, 1, 0, 2]
def eAs_1 : List Nat := [0, 0, 1, 1, 0, 0, 0, 0, 2, 2, 3, 1, 1, 2, 3, 0, 1, 1, 0, 0, 0, 0, 2, 1, 1, 0, 1, 2, 2, 1, 1, 3, 1, 1, 1, 1, 1, 1, 0, 3, 1, 4, 0, 0, 0, 0, 3, 4, 2, 2, 4, 4, 2, 2, 2, 2, 2, 3, 2, 1]
def eAs_2 : List Nat := [3, 2, 1, 2, 1, 1, 1, 2, 2, 2, 2, 2, 1, 3, 1, 1, 2, 1, 1, 3, 3, 1, 1, 0, 2, 1, 2, 0, 0, 0, 0, 0, 2, 1, 1, 0, 1, 1, 2, 2, 1, 1, 1, 2, 2, 2, 1]
def eAs : List Nat := eAs_0 ++ eAs_1 ++ eAs_2
def eIs_0 : List Bool := [true, false, false, false, false, false, false, false, false, false, false, false, false, false, false, true, false, false, false, true, false, false, false, true, false, false, false, false, false, false, false, false, false, false, false, true, false, false, false, false, false, false, false, true, false, false, false, false, false, false, false, false, false, false, true, false, false, false, false, false]
def eIs_1 : List Bool := [false, false, false, false, false, false, false, true, false, false, false, false, false, false, false, false, false, false, false, false, false, false, false, false, false, false, false, false, false, false, false, false, false, false, false, false, false, false, true, false, false, false, false, false, false, false, false, false, false, false, false, false, false, false, false, false, false, false, false, false]
def eIs_2 : List Bool := [false, false, false, false, false, false, false, false, false, false, false, false, false, false, false, false, false, false, false, false, false, false, false, false, false, false, false, false, false, false, false, false, false, false, false, false, false, false, false, false, false, false, false, false, false, false, false]
def eIs : List Bool := eIs_0 ++ eIs_1 ++ eIs_2
def eFs_0 : List Nat := [3, 3, 1, 2, 5, 4, 3, 4, 3, 2, 1, 3, 1, 2, 1, 1, 2, 1, 1, 4, 4, 4, 1, 1, 1, 0, 0, 0, 0, 1, 2, 0, 1, 1, 2, 1, 2, 0, 1, 2, 2, 2, 1, 1, 0, 5, 0, 4, 1, 2, 3, 0, 0, 1, 2, 1, 0, 0, 0, 1]
def eFs_1 : List Nat := [1, 3, 3, 2, 1, 1, 2, 5, 5, 5, 5, 5, 5, 5, 5, 6, 6, 1, 0, 5, 4, 5, 2, 4, 3, 6, 4, 3, 2, 3, 2, 0, 1, 1, 1, 1, 1, 0, 2, 0, 1, 0, 1, 1, 1, 2, 0, 0, 1, 1, 1, 0, 1, 1, 2, 3, 4, 3, 4, 5]
def eFs_2 : List Nat := [0, 0, 0, 5, 6, 5, 0, 4, 7, 1, 2, 2, 1, 2, 2, 2, 2, 0, 1, 2, 3, 8, 0, 0, 1, 2, 2, 3, 4, 5, 0, 6, 4, 6, 6, 8, 2, 4, 1, 1, 3, 4, 1, 0, 0, 0, 11]
def eFs : List Nat := eFs_0 ++ eFs_1 ++ eFs_2
def eLs_0 : List Nat := [65, 86, 22, 42, 111, 89, 67, 89, 67, 45, 21, 67, 22, 43, 21, 20, 65, 22, 22, 85, 107, 107, 22, 20, 21, 0, 0, 0, 0, 20, 40, 0, 21, 21, 42, 20, 65, 0, 21, 43, 43, 44, 21, 20, 0, 112, 0, 90, 22, 42, 67, 0, 0, 44, 40, 22, 0, 0, 0, 22]
def eLs_1 : List Nat := [20, 60, 66, 40, 22, 22, 40, 106, 129, 129, 129, 129, 129, 129, 129, 134, 134, 21, 0, 129, 107, 129, 42, 84, 66, 134, 88, 66, 43, 63, 42, 0, 22, 22, 22, 22, 22, 0, 44, 0, 22, 0, 24, 24, 24, 45, 0, 0, 23, 22, 23, 0, 23, 23, 44, 65, 87, 65, 87, 110]
def eLs_2 : List Nat := [0, 0, 0, 108, 131, 110, 0, 87, 153, 22, 45, 45, 22, 46, 45, 45, 45, 0, 22, 44, 69, 179, 0, 0, 22, 44, 44, 66, 88, 111, 0, 132, 87, 131, 129, 179, 44, 87, 22, 22, 65, 89, 22, 0, 0, 0, 404]
def eLs : List Nat := eLs_0 ++ eLs_1 ++ eLs_2
def eRs_0 : List String := [RX0, RX1, RX2, RX3, RX4, RX5, RX6, RX7, RX8, RX9, RJ9, RJ10, RL]
def eRs : List String := eRs_0
def eGs_0 : List Nat := [0, 1, 2, 3, 4, 5, 99, 6, 7, 8, 99, 99, 99]
def eGs : List Nat := eGs_0
def eY (y : Nat) : MethodName := eYs.getD y ⟨"", "", ""⟩
def eB (y : Nat) : ByteArray := eBs.getD y .empty
def eN (y : Nat) : Nat := eNs.getD y 0
def eT (y : Nat) : Option FieldType := eTs.getD y none
def eO (y : Nat) : Nat := eOs.getD y 0
def eA (y : Nat) : Nat := eAs.getD y 0
def eI (y : Nat) : Bool := eIs.getD y false
def eF (y : Nat) : Nat := eFs.getD y 0
def eL (y : Nat) : Nat := eLs.getD y 0
def eR (o : Nat) : String := eRs.getD o ""
def eG (o : Nat) : Nat := eGs.getD o 99
def eFl_0 : List (Nat × Nat × Nat × Nat × Nat × Nat) := [(0, 13, 0, 0, 2, 185), (0, 24, 0, 1, 2, 187), (0, 30, 0, 2, 2, 189), (0, 37, 0, 3, 2, 191), (0, 44, 0, 4, 2, 193), (0, 48, 0, 6, 0, 197), (0, 52, 0, 7, 0, 199), (0, 65, 0, 5, 0, 195), (0, 68, 0, 8, 0, 201), (0, 71, 0, 9, 0, 203), (0, 74, 0, 10, 0, 205), (0, 77, 0, 11, 0, 207), (0, 80, 0, 12, 0, 209), (0, 116, 6, 2, 0, 113), (0, 139, 6, 5, 1, 120), (0, 177, 4, 1, 2, 144), (0, 180, 4, 2, 2, 147), (0, 196, 3, 5, 1, 94), (1, 9, 1, 0, 2, 166), (1, 15, 1, 1, 2, 168), (1, 18, 1, 2, 2, 170), (1, 27, 1, 3, 0, 172), (1, 31, 1, 4, 0, 173), (2, 11, 2, 0, 2, 248), (2, 18, 2, 1, 0, 249), (2, 22, 2, 2, 0, 251), (3, 9, 3, 0, 0, 82), (3, 13, 3, 1, 0, 84), (3, 26, 3, 2, 0, 86), (3, 29, 3, 3, 0, 88), (3, 32, 3, 4, 0, 90), (3, 35, 3, 5, 1, 92), (4, 9, 4, 0, 2, 141), (4, 15, 4, 1, 2, 143), (4, 18, 4, 2, 2, 146), (4, 27, 4, 3, 0, 149), (5, 9, 5, 0, 2, 265), (5, 15, 5, 1, 0, 266), (5, 24, 5, 2, 1, 268), (5, 35, 5, 3, 0, 270)]
def eFl_1 : List (Nat × Nat × Nat × Nat × Nat × Nat) := [(5, 38, 5, 4, 0, 271), (5, 41, 5, 5, 0, 272), (5, 58, 5, 6, 0, 273), (7, 11, 6, 0, 2, 110), (7, 18, 6, 1, 2, 111), (7, 22, 6, 3, 0, 115), (7, 34, 6, 2, 0, 112), (7, 37, 6, 4, 0, 117), (7, 40, 6, 5, 1, 119), (7, 78, 3, 5, 1, 93), (8, 10, 7, 0, 2, 292), (8, 16, 7, 1, 2, 293), (8, 19, 7, 2, 2, 294), (8, 25, 7, 3, 2, 295), (8, 32, 7, 4, 2, 296), (8, 39, 7, 5, 2, 297), (8, 46, 7, 6, 2, 298), (8, 50, 7, 7, 1, 299), (8, 75, 0, 0, 2, 186), (8, 89, 0, 6, 0, 198), (8, 93, 0, 7, 0, 200), (8, 106, 0, 2, 2, 190), (8, 124, 3, 2, 0, 87), (8, 130, 3, 3, 0, 89), (8, 139, 6, 2, 0, 114), (8, 145, 6, 4, 0, 118), (8, 151, 0, 1, 2, 188), (8, 154, 0, 3, 2, 192), (8, 164, 4, 3, 0, 150), (8, 171, 5, 2, 1, 269), (8, 179, 0, 5, 0, 196), (8, 182, 0, 8, 0, 202), (8, 193, 5, 1, 0, 267), (8, 196, 2, 1, 0, 250), (8, 204, 3, 0, 0, 83), (8, 207, 3, 1, 0, 85), (8, 213, 3, 5, 1, 95), (8, 223, 3, 4, 0, 91), (8, 226, 6, 3, 0, 116), (8, 229, 6, 5, 1, 121)]
def eFl_2 : List (Nat × Nat × Nat × Nat × Nat × Nat) := [(8, 258, 4, 0, 2, 142), (8, 261, 4, 1, 2, 145), (8, 264, 4, 2, 2, 148), (8, 267, 0, 4, 2, 194), (8, 276, 1, 0, 2, 167), (8, 279, 1, 1, 2, 169), (8, 282, 1, 2, 2, 171), (8, 292, 0, 9, 0, 204), (8, 295, 0, 10, 0, 206), (8, 298, 0, 11, 0, 208), (9, 7, 8, 0, 2, 742), (9, 13, 8, 1, 2, 743), (9, 16, 8, 2, 2, 744), (9, 19, 8, 4, 2, 746), (9, 22, 8, 6, 2, 748), (9, 26, 8, 9, 2, 751), (9, 37, 8, 3, 0, 745), (9, 45, 8, 5, 1, 747), (9, 153, 8, 7, 0, 749), (9, 156, 8, 8, 0, 750), (9, 175, 8, 10, 0, 752)]
def eFl : List (Nat × Nat × Nat × Nat × Nat × Nat) := eFl_0 ++ eFl_1 ++ eFl_2
/-- a field by its place in the own class' pool: its class, its slot, its type (0 int, 1 boolean, 2 a reference) -/
def eFk (o i : Nat) : Option (Nat × Nat × Nat) := (eFl.find? fun e => e.1 == o && e.2.1 == i).map fun e => (e.2.2.1, e.2.2.2.1, e.2.2.2.2.1)
def eSl_0 : List (Nat × Nat × Nat × Nat × Nat) := [(0, 9, 1, 1, 58), (3, 16, 2, 0, 406), (3, 49, 3, 0, 551), (3, 52, 4, 0, 539), (8, 58, 5, 0, 328), (8, 68, 6, 0, 333), (8, 301, 1, 0, 324)]
def eSl : List (Nat × Nat × Nat × Nat × Nat) := eSl_0
def eSk (o i : Nat) : Option Nat := (eSl.find? fun e => e.1 == o && e.2.1 == i).map fun e => e.2.2.1
/-- the static arrays: class, field -/
def eSn_0 : List (String × String) := [("LampChanger", "FIRST_SETTINGS"), ("LampChanger$Lamp", "LIVES"), ("LampChanger$Lamp", "NOMINAL_CURRENTS"), ("LampChanger$Lamp", "WEARS_BY_SWITCHING_ON"), ("LampChanger", "LOWEST_SETTINGS"), ("LampChanger", "HIGHEST_SETTINGS")]
def eSn : List (String × String) := eSn_0
def eNl_0 : List (Nat × Nat × Nat × Nat) := [(0, 27, 6, 69), (0, 34, 4, 135), (0, 41, 1, 160), (2, 9, 0, 245), (7, 9, 3, 75), (8, 7, 0, 52), (8, 22, 3, 237), (8, 29, 2, 239), (8, 36, 5, 259), (8, 43, 4, 290), (12, 7, 7, 44), (12, 10, 8, 730)]
def eNl : List (Nat × Nat × Nat × Nat) := eNl_0
def eNk (o i : Nat) : Option Nat := (eNl.find? fun e => e.1 == o && e.2.1 == i).map fun e => e.2.2.1
def eKl_0 : List (Nat × Nat × Int × Nat) := [(8, 178, 99999, 501), (9, 148, 99999, 869)]
def eKl : List (Nat × Nat × Int × Nat) := eKl_0
def eKk (o i : Nat) : Option Int := (eKl.find? fun e => e.1 == o && e.2.1 == i).map fun e => e.2.2.1
def eCl_0 : List (Nat × Nat × Nat × Nat × Nat) := [(0, 3, 4, 0, 57), (0, 18, 0, 53, 60), (0, 29, 2, 54, 71), (0, 36, 2, 35, 137), (0, 43, 2, 15, 162), (0, 55, 1, 55, 350), (0, 59, 1, 36, 362), (0, 62, 1, 16, 367), (0, 83, 0, 163, 386), (0, 89, 1, 2, 510), (0, 93, 1, 3, 506), (0, 97, 1, 60, 511), (0, 100, 1, 58, 516), (0, 103, 1, 5, 517), (0, 106, 1, 7, 578), (0, 109, 1, 10, 583), (0, 113, 1, 11, 590), (0, 119, 1, 56, 521), (0, 123, 1, 29, 522), (0, 128, 1, 6, 531), (0, 132, 1, 61, 563), (0, 135, 1, 8, 573), (0, 143, 1, 33, 535), (0, 146, 1, 28, 541), (0, 149, 0, 51, 542), (0, 153, 1, 34, 543), (0, 157, 1, 9, 553), (0, 160, 1, 30, 582), (0, 163, 1, 59, 577), (0, 166, 1, 17, 557), (0, 170, 0, 164, 587), (0, 173, 1, 38, 594), (0, 183, 0, 165, 595), (0, 186, 0, 52, 596), (0, 190, 1, 12, 597), (0, 193, 1, 13, 603), (0, 199, 1, 57, 601), (0, 203, 1, 25, 602), (0, 206, 1, 14, 607), (0, 209, 1, 27, 611)]
def eCl_1 : List (Nat × Nat × Nat × Nat × Nat) := [(0, 212, 1, 24, 612), (1, 3, 4, 0, 165), (1, 21, 0, 53, 371), (1, 34, 0, 52, 561), (1, 38, 0, 165, 562), (1, 44, 0, 163, 706), (2, 3, 4, 0, 244), (2, 17, 2, 0, 247), (2, 25, 1, 22, 339), (2, 29, 1, 1, 346), (2, 33, 0, 163, 343), (3, 1, 4, 0, 81), (3, 20, 0, 51, 408), (3, 39, 1, 27, 526), (3, 43, 1, 28, 527), (3, 46, 1, 29, 571), (3, 55, 1, 32, 547), (4, 3, 4, 0, 140), (4, 21, 0, 53, 366), (4, 31, 0, 51, 453), (4, 35, 1, 38, 449), (4, 39, 0, 52, 458), (4, 43, 1, 42, 693), (4, 46, 3, 97, 697), (5, 3, 4, 0, 264), (5, 19, 1, 37, 467), (5, 28, 1, 46, 471), (5, 31, 1, 47, 475), (5, 44, 1, 48, 479), (5, 48, 1, 49, 484), (5, 51, 1, 50, 489), (5, 54, 3, 91, 483), (5, 61, 3, 95, 488), (5, 65, 3, 96, 493), (5, 68, 1, 39, 494), (5, 71, 1, 40, 495), (6, 7, 0, 165, 63), (6, 13, 5, 0, 66), (7, 3, 4, 0, 74), (7, 17, 2, 23, 78)]
def eCl_2 : List (Nat × Nat × Nat × Nat × Nat) := [(7, 26, 1, 56, 354), (7, 30, 1, 26, 358), (7, 44, 0, 163, 433), (7, 50, 1, 58, 515), (7, 54, 1, 30, 567), (7, 57, 1, 29, 572), (7, 60, 1, 63, 680), (7, 64, 1, 31, 684), (7, 68, 1, 27, 715), (7, 71, 3, 97, 716), (7, 75, 1, 28, 721), (8, 1, 4, 0, 49), (8, 9, 2, 0, 54), (8, 24, 2, 23, 238), (8, 31, 2, 19, 241), (8, 38, 2, 43, 261), (8, 45, 2, 35, 291), (8, 54, 0, 92, 321), (8, 62, 0, 51, 330), (8, 71, 0, 91, 325), (8, 78, 1, 20, 335), (8, 82, 0, 52, 372), (8, 86, 0, 93, 379), (8, 96, 1, 2, 382), (8, 100, 0, 94, 391), (8, 103, 0, 95, 394), (8, 110, 1, 56, 397), (8, 116, 1, 27, 398), (8, 120, 1, 24, 402), (8, 127, 1, 57, 413), (8, 133, 1, 25, 417), (8, 136, 1, 58, 425), (8, 142, 1, 59, 429), (8, 148, 0, 96, 438), (8, 157, 1, 39, 445), (8, 160, 1, 40, 454), (8, 167, 1, 45, 463), (8, 174, 1, 36, 496), (8, 185, 1, 4, 502), (8, 189, 1, 44, 617)]
def eCl_3 : List (Nat × Nat × Nat × Nat × Nat) := [(8, 199, 1, 21, 629), (8, 202, 1, 1, 637), (8, 210, 1, 32, 646), (8, 216, 0, 97, 647), (8, 220, 1, 28, 650), (8, 232, 1, 3, 655), (8, 235, 1, 61, 656), (8, 238, 1, 29, 661), (8, 241, 1, 26, 662), (8, 244, 1, 31, 663), (8, 247, 1, 34, 667), (8, 251, 1, 62, 676), (8, 255, 1, 41, 689), (8, 271, 1, 18, 702), (8, 283, 1, 64, 711), (8, 286, 1, 65, 717), (8, 289, 1, 66, 722), (9, 1, 4, 0, 735), (9, 29, 0, 108, 736), (9, 33, 0, 99, 799), (9, 41, 0, 101, 780), (9, 49, 1, 102, 791), (9, 52, 0, 107, 739), (9, 56, 0, 106, 822), (9, 60, 0, 111, 831), (9, 64, 0, 112, 828), (9, 68, 0, 113, 903), (9, 71, 0, 114, 882), (9, 75, 0, 115, 900), (9, 78, 0, 109, 819), (9, 81, 0, 117, 879), (9, 85, 0, 118, 888), (9, 89, 0, 116, 897), (9, 92, 0, 120, 891), (9, 96, 0, 119, 885), (9, 100, 0, 121, 842), (9, 103, 0, 123, 894), (9, 106, 0, 126, 912), (9, 109, 0, 110, 825), (9, 112, 0, 122, 873)]
def eCl_4 : List (Nat × Nat × Nat × Nat × Nat) := [(9, 116, 0, 124, 876), (9, 119, 0, 125, 906), (9, 123, 0, 127, 909), (9, 126, 0, 129, 802), (9, 130, 0, 100, 813), (9, 134, 0, 132, 816), (9, 137, 1, 137, 857), (9, 141, 1, 138, 853), (9, 144, 1, 139, 861), (9, 149, 0, 128, 870), (9, 159, 1, 144, 943), (9, 163, 1, 146, 939), (9, 167, 1, 147, 935), (9, 171, 1, 145, 947), (9, 178, 1, 148, 931), (9, 182, 1, 149, 927), (9, 185, 1, 150, 951), (9, 188, 1, 156, 975), (9, 191, 1, 160, 991), (12, 9, 2, 67, 46), (12, 12, 2, 98, 732), (12, 13, 1, 68, 317), (12, 17, 1, 130, 795), (12, 18, 1, 69, 375), (12, 21, 1, 131, 805), (12, 22, 1, 70, 387), (12, 26, 1, 133, 809), (12, 27, 1, 71, 409), (12, 31, 1, 134, 834), (12, 32, 1, 72, 421), (12, 35, 1, 135, 838), (12, 36, 1, 73, 434), (12, 39, 1, 136, 845), (12, 40, 1, 74, 441), (12, 43, 1, 140, 849), (12, 44, 1, 75, 459), (12, 48, 1, 151, 923), (12, 49, 1, 76, 497), (12, 52, 1, 141, 865), (12, 53, 1, 77, 613)]
def eCl_5 : List (Nat × Nat × Nat × Nat × Nat) := [(12, 57, 1, 142, 915), (12, 58, 1, 78, 621), (12, 61, 1, 143, 919), (12, 62, 1, 79, 625), (12, 65, 1, 103, 776), (12, 66, 1, 80, 633), (12, 69, 1, 104, 783), (12, 70, 1, 81, 638), (12, 73, 1, 105, 787), (12, 74, 1, 82, 642), (12, 77, 1, 152, 955), (12, 78, 1, 83, 651), (12, 81, 1, 153, 959), (12, 82, 1, 84, 657), (12, 85, 1, 154, 963), (12, 86, 1, 85, 668), (12, 89, 1, 155, 967), (12, 90, 1, 86, 672), (12, 93, 1, 157, 971), (12, 94, 1, 87, 685), (12, 97, 1, 158, 979), (12, 98, 1, 88, 698), (12, 101, 1, 159, 983), (12, 102, 1, 89, 707), (12, 105, 1, 161, 987), (12, 106, 1, 90, 726), (12, 109, 1, 162, 995)]
def eCl : List (Nat × Nat × Nat × Nat × Nat) := eCl_0 ++ eCl_1 ++ eCl_2 ++ eCl_3 ++ eCl_4 ++ eCl_5
/-- a call by its place in the own class' pool: its kind (0 static, 1 virtual, 2 <init>, 3 static of the nest, 4 Object.<init>, 5 arraycopy), the method -/
def eCk (o i : Nat) : Option (Nat × Nat) := (eCl.find? fun e => e.1 == o && e.2.1 == i).map fun e => (e.2.2.1, e.2.2.2.1)
def eMp_0 : List (Nat × Nat × Nat × Nat) := [(55, 0, 33, 56), (347, 348, 33, 349), (383, 384, 33, 385), (507, 508, 33, 509), (503, 504, 33, 505), (519, 6, 33, 520), (533, 7, 33, 534), (580, 10, 33, 581), (575, 9, 33, 576), (555, 8, 33, 556), (585, 11, 33, 586), (592, 12, 33, 593), (599, 13, 33, 600), (605, 14, 33, 606), (609, 15, 33, 610), (163, 0, 40, 164), (368, 369, 40, 370), (558, 559, 40, 560), (703, 704, 40, 705), (242, 0, 41, 243), (336, 337, 41, 338), (630, 631, 41, 632), (341, 0, 41, 342), (79, 0, 38, 80), (403, 404, 38, 405), (418, 419, 38, 420), (359, 360, 38, 361), (399, 400, 38, 401), (528, 529, 38, 530), (523, 524, 38, 525), (568, 569, 38, 570), (664, 665, 38, 666), (548, 549, 38, 550), (536, 537, 38, 538), (544, 545, 38, 546), (138, 0, 39, 139), (363, 364, 39, 365), (468, 469, 39, 470), (450, 451, 39, 452), (446, 447, 39, 448)]
def eMp_1 : List (Nat × Nat × Nat × Nat) := [(455, 456, 39, 457), (690, 691, 39, 692), (695, 17, 39, 696), (262, 0, 42, 263), (618, 619, 42, 620), (464, 465, 42, 466), (473, 1, 42, 474), (477, 2, 42, 478), (481, 3, 42, 482), (486, 4, 42, 487), (491, 5, 42, 492), (331, 0, 34, 332), (373, 0, 34, 374), (61, 0, 34, 62), (72, 0, 37, 73), (351, 352, 37, 353), (355, 356, 37, 357), (414, 415, 37, 416), (426, 427, 37, 428), (430, 431, 37, 432), (512, 513, 37, 514), (564, 565, 37, 566), (677, 678, 37, 679), (682, 16, 37, 683), (712, 713, 37, 714), (718, 719, 37, 720), (723, 724, 37, 725), (47, 0, 32, 48), (318, 319, 32, 320), (376, 377, 32, 378), (388, 389, 32, 390), (410, 411, 32, 412), (422, 423, 32, 424), (435, 436, 32, 437), (442, 443, 32, 444), (460, 461, 32, 462), (498, 499, 32, 500), (614, 615, 32, 616), (622, 623, 32, 624), (626, 627, 32, 628)]
def eMp_2 : List (Nat × Nat × Nat × Nat) := [(634, 635, 32, 636), (639, 640, 32, 641), (643, 644, 32, 645), (652, 653, 32, 654), (658, 659, 32, 660), (669, 670, 32, 671), (673, 674, 32, 675), (686, 687, 32, 688), (699, 700, 32, 701), (708, 709, 32, 710), (727, 728, 32, 729), (326, 0, 32, 327), (322, 0, 32, 323), (380, 0, 32, 381), (392, 0, 32, 393), (395, 0, 32, 396), (439, 0, 32, 440), (648, 0, 32, 649), (733, 0, 43, 734), (800, 0, 43, 801), (814, 0, 43, 815), (781, 0, 43, 782), (793, 18, 43, 794), (777, 778, 43, 779), (784, 785, 43, 786), (788, 789, 43, 790), (823, 0, 43, 824), (740, 0, 43, 741), (737, 0, 43, 738), (820, 0, 43, 821), (826, 0, 43, 827), (832, 0, 43, 833), (829, 0, 43, 830), (904, 0, 43, 905), (883, 0, 43, 884), (901, 0, 43, 902), (898, 0, 43, 899), (880, 0, 43, 881), (889, 0, 43, 890), (886, 0, 43, 887)]
def eMp_3 : List (Nat × Nat × Nat × Nat) := [(892, 0, 43, 893), (843, 0, 43, 844), (874, 0, 43, 875), (895, 0, 43, 896), (877, 0, 43, 878), (907, 0, 43, 908), (913, 0, 43, 914), (910, 0, 43, 911), (871, 0, 43, 872), (803, 0, 43, 804), (796, 797, 43, 798), (806, 807, 43, 808), (817, 0, 43, 818), (810, 811, 43, 812), (835, 836, 43, 837), (839, 840, 43, 841), (846, 847, 43, 848), (859, 20, 43, 860), (855, 19, 43, 856), (863, 21, 43, 864), (850, 851, 43, 852), (866, 867, 43, 868), (916, 917, 43, 918), (920, 921, 43, 922), (945, 26, 43, 946), (949, 27, 43, 950), (941, 25, 43, 942), (937, 24, 43, 938), (933, 23, 43, 934), (929, 22, 43, 930), (953, 28, 43, 954), (924, 925, 43, 926), (956, 957, 43, 958), (960, 961, 43, 962), (964, 965, 43, 966), (968, 969, 43, 970), (977, 29, 43, 978), (972, 973, 43, 974), (980, 981, 43, 982), (984, 985, 43, 986)]
def eMp_4 : List (Nat × Nat × Nat × Nat) := [(993, 30, 43, 994), (988, 989, 43, 990), (996, 997, 43, 998), (344, 0, 35, 345), (588, 0, 35, 589), (64, 0, 35, 65)]
def eMp : List (Nat × Nat × Nat × Nat) := eMp_0 ++ eMp_1 ++ eMp_2 ++ eMp_3 ++ eMp_4
def eSt_0 : List Bool := [false, false, false, false, false, false, false, false, false, false, false, false, false, false, false, false, false, false, false, false, false, false, false, false, false, false, false, false, false, false, false, false, false, false, false, false, false, false, false, false, false, false, false, false, false, false, false, false, false, false, false, true, true, true, false, false, false, false, false, false]
def eSt_1 : List Bool := [false, false, false, false, false, false, false, false, false, false, false, false, false, false, false, false, false, false, false, false, false, false, false, false, false, false, false, false, false, false, false, true, true, true, true, true, true, true, false, true, true, true, false, false, false, false, true, true, true, true, true, true, true, true, true, true, true, true, true, true]
def eSt_2 : List Bool := [true, true, true, true, true, true, true, true, true, true, false, false, true, false, false, false, false, false, false, false, false, false, false, false, false, false, false, false, false, false, false, false, false, false, false, false, false, false, false, false, false, false, false, true, true, true, true]
def eSt : List Bool := eSt_0 ++ eSt_1 ++ eSt_2
end
section
/-! checks of the tables against the Statement's words; the words that every method is given -/
def eWs : List Cond := lw_tbl.filter goodWord
def eNest : Cond → Bool
  | .methodLinkNest _ _ _ _ => true
  | .fieldLinkNest _ _ _ _ _ _ => true
  | _ => false
def eNw : List Cond := lw_tbl.filter eNest
theorem eWs_of {i : Nat} {w : Cond} (h : lw_tbl[i]? = some w) (hg : goodWord w = true) : w ∈ eWs := List.mem_filter.mpr ⟨List.mem_of_getElem? h, hg⟩
theorem eNw_of {i : Nat} {w : Cond} (h : lw_tbl[i]? = some w) (hg : eNest w = true) : w ∈ eNw := List.mem_filter.mpr ⟨List.mem_of_getElem? h, hg⟩
theorem eWs_good {w : Cond} (h : w ∈ eWs) : goodWord w = true := (List.mem_filter.mp h).2
def eRefTy : Option FieldType → Bool
  | some (.object _) => true
  | some (.array _) => true
  | _ => false
def eAt (i : Nat) (w : Cond) : Bool := decide (lw_tbl[i]? = some w) && goodWord w
theorem eAt_of {i : Nat} {w : Cond} (h : eAt i w = true) : w ∈ eWs := by
  simp only [eAt, Bool.and_eq_true, decide_eq_true_eq] at h
  exact eWs_of h.1 h.2
def eFchk (e : Nat × Nat × Nat × Nat × Nat × Nat) : Bool := match vwCl[e.2.2.1]? with
  | some q => decide (e.2.2.2.1 < q.2.2) && eAt e.2.2.2.2.2 (.fieldLink (eR e.1) e.2.1 q.1 (q.2.1 e.2.2.2.1).2.1 (q.2.1 e.2.2.2.1).2.2.1) && decide ((q.2.1 e.2.2.2.1).1 = q.1) &&
      (if e.2.2.2.2.1 = 0 then decide (parseFieldDescriptor (q.2.1 e.2.2.2.1).2.2.1 = some .int) else if e.2.2.2.2.1 = 1 then decide (parseFieldDescriptor (q.2.1 e.2.2.2.1).2.2.1 = some .boolean) else eRefTy (parseFieldDescriptor (q.2.1 e.2.2.2.1).2.2.1))
  | none => false
set_option maxRecDepth 100000 in
theorem eFl_ok : eFl.all eFchk = true := by decide +kernel
def eMchk (y : Nat) : Bool := match eMp[y]? with
  | some q => eAt q.1 (if eSt.getD y false then .static (eY y) else .instanceMethod (eY y)) && (eSt.getD y false || eI y || eAt q.2.1 (.selects (eY y).cls (eY y) (eY y))) && eAt q.2.2.1 (.initialized (eY y).cls) &&
      decide ((parseMethodDescriptor (eY y).desc).map (fun d => d.parameters.length) = some (eA y)) && plainFor (eY y) && decide ((eY y).cls ≠ "java/lang/invoke/MethodHandle") && decide ((eY y).cls ≠ "java/lang/invoke/VarHandle") && decide (eR (eO y) = (eY y).cls) && decide (eI y = true → (eY y).name = "<init>") && decide (eI y = true → eT y = none)
  | none => false
set_option maxRecDepth 100000 in
theorem eM_ok : (List.range eMp.length).all eMchk = true := by decide +kernel
set_option maxRecDepth 100000 in
theorem eK_0 : eAt 56 (.code (eY 0) (eB 0) (eN 0) (eT 0)) = true := by decide +kernel
set_option maxRecDepth 100000 in
theorem eK_1 : eAt 349 (.code (eY 1) (eB 1) (eN 1) (eT 1)) = true := by decide +kernel
set_option maxRecDepth 100000 in
theorem eK_2 : eAt 385 (.code (eY 2) (eB 2) (eN 2) (eT 2)) = true := by decide +kernel
set_option maxRecDepth 100000 in
theorem eK_3 : eAt 509 (.code (eY 3) (eB 3) (eN 3) (eT 3)) = true := by decide +kernel
set_option maxRecDepth 100000 in
theorem eK_4 : eAt 505 (.code (eY 4) (eB 4) (eN 4) (eT 4)) = true := by decide +kernel
set_option maxRecDepth 100000 in
theorem eK_5 : eAt 520 (.code (eY 5) (eB 5) (eN 5) (eT 5)) = true := by decide +kernel
set_option maxRecDepth 100000 in
theorem eK_6 : eAt 534 (.code (eY 6) (eB 6) (eN 6) (eT 6)) = true := by decide +kernel
set_option maxRecDepth 100000 in
theorem eK_7 : eAt 581 (.code (eY 7) (eB 7) (eN 7) (eT 7)) = true := by decide +kernel
set_option maxRecDepth 100000 in
theorem eK_8 : eAt 576 (.code (eY 8) (eB 8) (eN 8) (eT 8)) = true := by decide +kernel
set_option maxRecDepth 100000 in
theorem eK_9 : eAt 556 (.code (eY 9) (eB 9) (eN 9) (eT 9)) = true := by decide +kernel
set_option maxRecDepth 100000 in
theorem eK_10 : eAt 586 (.code (eY 10) (eB 10) (eN 10) (eT 10)) = true := by decide +kernel
set_option maxRecDepth 100000 in
theorem eK_11 : eAt 593 (.code (eY 11) (eB 11) (eN 11) (eT 11)) = true := by decide +kernel
set_option maxRecDepth 100000 in
theorem eK_12 : eAt 600 (.code (eY 12) (eB 12) (eN 12) (eT 12)) = true := by decide +kernel
set_option maxRecDepth 100000 in
theorem eK_13 : eAt 606 (.code (eY 13) (eB 13) (eN 13) (eT 13)) = true := by decide +kernel
set_option maxRecDepth 100000 in
theorem eK_14 : eAt 610 (.code (eY 14) (eB 14) (eN 14) (eT 14)) = true := by decide +kernel
set_option maxRecDepth 100000 in
theorem eK_15 : eAt 164 (.code (eY 15) (eB 15) (eN 15) (eT 15)) = true := by decide +kernel
set_option maxRecDepth 100000 in
theorem eK_16 : eAt 370 (.code (eY 16) (eB 16) (eN 16) (eT 16)) = true := by decide +kernel
set_option maxRecDepth 100000 in
theorem eK_17 : eAt 560 (.code (eY 17) (eB 17) (eN 17) (eT 17)) = true := by decide +kernel
set_option maxRecDepth 100000 in
theorem eK_18 : eAt 705 (.code (eY 18) (eB 18) (eN 18) (eT 18)) = true := by decide +kernel
set_option maxRecDepth 100000 in
theorem eK_19 : eAt 243 (.code (eY 19) (eB 19) (eN 19) (eT 19)) = true := by decide +kernel
set_option maxRecDepth 100000 in
theorem eK_20 : eAt 338 (.code (eY 20) (eB 20) (eN 20) (eT 20)) = true := by decide +kernel
set_option maxRecDepth 100000 in
theorem eK_21 : eAt 632 (.code (eY 21) (eB 21) (eN 21) (eT 21)) = true := by decide +kernel
set_option maxRecDepth 100000 in
theorem eK_22 : eAt 342 (.code (eY 22) (eB 22) (eN 22) (eT 22)) = true := by decide +kernel
set_option maxRecDepth 100000 in
theorem eK_23 : eAt 80 (.code (eY 23) (eB 23) (eN 23) (eT 23)) = true := by decide +kernel
set_option maxRecDepth 100000 in
theorem eK_24 : eAt 405 (.code (eY 24) (eB 24) (eN 24) (eT 24)) = true := by decide +kernel
set_option maxRecDepth 100000 in
theorem eK_25 : eAt 420 (.code (eY 25) (eB 25) (eN 25) (eT 25)) = true := by decide +kernel
set_option maxRecDepth 100000 in
theorem eK_26 : eAt 361 (.code (eY 26) (eB 26) (eN 26) (eT 26)) = true := by decide +kernel
set_option maxRecDepth 100000 in
theorem eK_27 : eAt 401 (.code (eY 27) (eB 27) (eN 27) (eT 27)) = true := by decide +kernel
set_option maxRecDepth 100000 in
theorem eK_28 : eAt 530 (.code (eY 28) (eB 28) (eN 28) (eT 28)) = true := by decide +kernel
set_option maxRecDepth 100000 in
theorem eK_29 : eAt 525 (.code (eY 29) (eB 29) (eN 29) (eT 29)) = true := by decide +kernel
set_option maxRecDepth 100000 in
theorem eK_30 : eAt 570 (.code (eY 30) (eB 30) (eN 30) (eT 30)) = true := by decide +kernel
set_option maxRecDepth 100000 in
theorem eK_31 : eAt 666 (.code (eY 31) (eB 31) (eN 31) (eT 31)) = true := by decide +kernel
set_option maxRecDepth 100000 in
theorem eK_32 : eAt 550 (.code (eY 32) (eB 32) (eN 32) (eT 32)) = true := by decide +kernel
set_option maxRecDepth 100000 in
theorem eK_33 : eAt 538 (.code (eY 33) (eB 33) (eN 33) (eT 33)) = true := by decide +kernel
set_option maxRecDepth 100000 in
theorem eK_34 : eAt 546 (.code (eY 34) (eB 34) (eN 34) (eT 34)) = true := by decide +kernel
set_option maxRecDepth 100000 in
theorem eK_35 : eAt 139 (.code (eY 35) (eB 35) (eN 35) (eT 35)) = true := by decide +kernel
set_option maxRecDepth 100000 in
theorem eK_36 : eAt 365 (.code (eY 36) (eB 36) (eN 36) (eT 36)) = true := by decide +kernel
set_option maxRecDepth 100000 in
theorem eK_37 : eAt 470 (.code (eY 37) (eB 37) (eN 37) (eT 37)) = true := by decide +kernel
set_option maxRecDepth 100000 in
theorem eK_38 : eAt 452 (.code (eY 38) (eB 38) (eN 38) (eT 38)) = true := by decide +kernel
set_option maxRecDepth 100000 in
theorem eK_39 : eAt 448 (.code (eY 39) (eB 39) (eN 39) (eT 39)) = true := by decide +kernel
set_option maxRecDepth 100000 in
theorem eK_40 : eAt 457 (.code (eY 40) (eB 40) (eN 40) (eT 40)) = true := by decide +kernel
set_option maxRecDepth 100000 in
theorem eK_41 : eAt 692 (.code (eY 41) (eB 41) (eN 41) (eT 41)) = true := by decide +kernel
set_option maxRecDepth 100000 in
theorem eK_42 : eAt 696 (.code (eY 42) (eB 42) (eN 42) (eT 42)) = true := by decide +kernel
set_option maxRecDepth 100000 in
theorem eK_43 : eAt 263 (.code (eY 43) (eB 43) (eN 43) (eT 43)) = true := by decide +kernel
set_option maxRecDepth 100000 in
theorem eK_44 : eAt 620 (.code (eY 44) (eB 44) (eN 44) (eT 44)) = true := by decide +kernel
set_option maxRecDepth 100000 in
theorem eK_45 : eAt 466 (.code (eY 45) (eB 45) (eN 45) (eT 45)) = true := by decide +kernel
set_option maxRecDepth 100000 in
theorem eK_46 : eAt 474 (.code (eY 46) (eB 46) (eN 46) (eT 46)) = true := by decide +kernel
set_option maxRecDepth 100000 in
theorem eK_47 : eAt 478 (.code (eY 47) (eB 47) (eN 47) (eT 47)) = true := by decide +kernel
set_option maxRecDepth 100000 in
theorem eK_48 : eAt 482 (.code (eY 48) (eB 48) (eN 48) (eT 48)) = true := by decide +kernel
set_option maxRecDepth 100000 in
theorem eK_49 : eAt 487 (.code (eY 49) (eB 49) (eN 49) (eT 49)) = true := by decide +kernel
set_option maxRecDepth 100000 in
theorem eK_50 : eAt 492 (.code (eY 50) (eB 50) (eN 50) (eT 50)) = true := by decide +kernel
set_option maxRecDepth 100000 in
theorem eK_51 : eAt 332 (.code (eY 51) (eB 51) (eN 51) (eT 51)) = true := by decide +kernel
set_option maxRecDepth 100000 in
theorem eK_52 : eAt 374 (.code (eY 52) (eB 52) (eN 52) (eT 52)) = true := by decide +kernel
set_option maxRecDepth 100000 in
theorem eK_53 : eAt 62 (.code (eY 53) (eB 53) (eN 53) (eT 53)) = true := by decide +kernel
set_option maxRecDepth 100000 in
theorem eK_54 : eAt 73 (.code (eY 54) (eB 54) (eN 54) (eT 54)) = true := by decide +kernel
set_option maxRecDepth 100000 in
theorem eK_55 : eAt 353 (.code (eY 55) (eB 55) (eN 55) (eT 55)) = true := by decide +kernel
set_option maxRecDepth 100000 in
theorem eK_56 : eAt 357 (.code (eY 56) (eB 56) (eN 56) (eT 56)) = true := by decide +kernel
set_option maxRecDepth 100000 in
theorem eK_57 : eAt 416 (.code (eY 57) (eB 57) (eN 57) (eT 57)) = true := by decide +kernel
set_option maxRecDepth 100000 in
theorem eK_58 : eAt 428 (.code (eY 58) (eB 58) (eN 58) (eT 58)) = true := by decide +kernel
set_option maxRecDepth 100000 in
theorem eK_59 : eAt 432 (.code (eY 59) (eB 59) (eN 59) (eT 59)) = true := by decide +kernel
set_option maxRecDepth 100000 in
theorem eK_60 : eAt 514 (.code (eY 60) (eB 60) (eN 60) (eT 60)) = true := by decide +kernel
set_option maxRecDepth 100000 in
theorem eK_61 : eAt 566 (.code (eY 61) (eB 61) (eN 61) (eT 61)) = true := by decide +kernel
set_option maxRecDepth 100000 in
theorem eK_62 : eAt 679 (.code (eY 62) (eB 62) (eN 62) (eT 62)) = true := by decide +kernel
set_option maxRecDepth 100000 in
theorem eK_63 : eAt 683 (.code (eY 63) (eB 63) (eN 63) (eT 63)) = true := by decide +kernel
set_option maxRecDepth 100000 in
theorem eK_64 : eAt 714 (.code (eY 64) (eB 64) (eN 64) (eT 64)) = true := by decide +kernel
set_option maxRecDepth 100000 in
theorem eK_65 : eAt 720 (.code (eY 65) (eB 65) (eN 65) (eT 65)) = true := by decide +kernel
set_option maxRecDepth 100000 in
theorem eK_66 : eAt 725 (.code (eY 66) (eB 66) (eN 66) (eT 66)) = true := by decide +kernel
set_option maxRecDepth 100000 in
theorem eK_67 : eAt 48 (.code (eY 67) (eB 67) (eN 67) (eT 67)) = true := by decide +kernel
set_option maxRecDepth 100000 in
theorem eK_68 : eAt 320 (.code (eY 68) (eB 68) (eN 68) (eT 68)) = true := by decide +kernel
set_option maxRecDepth 100000 in
theorem eK_69 : eAt 378 (.code (eY 69) (eB 69) (eN 69) (eT 69)) = true := by decide +kernel
set_option maxRecDepth 100000 in
theorem eK_70 : eAt 390 (.code (eY 70) (eB 70) (eN 70) (eT 70)) = true := by decide +kernel
set_option maxRecDepth 100000 in
theorem eK_71 : eAt 412 (.code (eY 71) (eB 71) (eN 71) (eT 71)) = true := by decide +kernel
set_option maxRecDepth 100000 in
theorem eK_72 : eAt 424 (.code (eY 72) (eB 72) (eN 72) (eT 72)) = true := by decide +kernel
set_option maxRecDepth 100000 in
theorem eK_73 : eAt 437 (.code (eY 73) (eB 73) (eN 73) (eT 73)) = true := by decide +kernel
set_option maxRecDepth 100000 in
theorem eK_74 : eAt 444 (.code (eY 74) (eB 74) (eN 74) (eT 74)) = true := by decide +kernel
set_option maxRecDepth 100000 in
theorem eK_75 : eAt 462 (.code (eY 75) (eB 75) (eN 75) (eT 75)) = true := by decide +kernel
set_option maxRecDepth 100000 in
theorem eK_76 : eAt 500 (.code (eY 76) (eB 76) (eN 76) (eT 76)) = true := by decide +kernel
set_option maxRecDepth 100000 in
theorem eK_77 : eAt 616 (.code (eY 77) (eB 77) (eN 77) (eT 77)) = true := by decide +kernel
set_option maxRecDepth 100000 in
theorem eK_78 : eAt 624 (.code (eY 78) (eB 78) (eN 78) (eT 78)) = true := by decide +kernel
set_option maxRecDepth 100000 in
theorem eK_79 : eAt 628 (.code (eY 79) (eB 79) (eN 79) (eT 79)) = true := by decide +kernel
set_option maxRecDepth 100000 in
theorem eK_80 : eAt 636 (.code (eY 80) (eB 80) (eN 80) (eT 80)) = true := by decide +kernel
set_option maxRecDepth 100000 in
theorem eK_81 : eAt 641 (.code (eY 81) (eB 81) (eN 81) (eT 81)) = true := by decide +kernel
set_option maxRecDepth 100000 in
theorem eK_82 : eAt 645 (.code (eY 82) (eB 82) (eN 82) (eT 82)) = true := by decide +kernel
set_option maxRecDepth 100000 in
theorem eK_83 : eAt 654 (.code (eY 83) (eB 83) (eN 83) (eT 83)) = true := by decide +kernel
set_option maxRecDepth 100000 in
theorem eK_84 : eAt 660 (.code (eY 84) (eB 84) (eN 84) (eT 84)) = true := by decide +kernel
set_option maxRecDepth 100000 in
theorem eK_85 : eAt 671 (.code (eY 85) (eB 85) (eN 85) (eT 85)) = true := by decide +kernel
set_option maxRecDepth 100000 in
theorem eK_86 : eAt 675 (.code (eY 86) (eB 86) (eN 86) (eT 86)) = true := by decide +kernel
set_option maxRecDepth 100000 in
theorem eK_87 : eAt 688 (.code (eY 87) (eB 87) (eN 87) (eT 87)) = true := by decide +kernel
set_option maxRecDepth 100000 in
theorem eK_88 : eAt 701 (.code (eY 88) (eB 88) (eN 88) (eT 88)) = true := by decide +kernel
set_option maxRecDepth 100000 in
theorem eK_89 : eAt 710 (.code (eY 89) (eB 89) (eN 89) (eT 89)) = true := by decide +kernel
set_option maxRecDepth 100000 in
theorem eK_90 : eAt 729 (.code (eY 90) (eB 90) (eN 90) (eT 90)) = true := by decide +kernel
set_option maxRecDepth 100000 in
theorem eK_91 : eAt 327 (.code (eY 91) (eB 91) (eN 91) (eT 91)) = true := by decide +kernel
set_option maxRecDepth 100000 in
theorem eK_92 : eAt 323 (.code (eY 92) (eB 92) (eN 92) (eT 92)) = true := by decide +kernel
set_option maxRecDepth 100000 in
theorem eK_93 : eAt 381 (.code (eY 93) (eB 93) (eN 93) (eT 93)) = true := by decide +kernel
set_option maxRecDepth 100000 in
theorem eK_94 : eAt 393 (.code (eY 94) (eB 94) (eN 94) (eT 94)) = true := by decide +kernel
set_option maxRecDepth 100000 in
theorem eK_95 : eAt 396 (.code (eY 95) (eB 95) (eN 95) (eT 95)) = true := by decide +kernel
set_option maxRecDepth 100000 in
theorem eK_96 : eAt 440 (.code (eY 96) (eB 96) (eN 96) (eT 96)) = true := by decide +kernel
set_option maxRecDepth 100000 in
theorem eK_97 : eAt 649 (.code (eY 97) (eB 97) (eN 97) (eT 97)) = true := by decide +kernel
set_option maxRecDepth 100000 in
theorem eK_98 : eAt 734 (.code (eY 98) (eB 98) (eN 98) (eT 98)) = true := by decide +kernel
set_option maxRecDepth 100000 in
theorem eK_99 : eAt 801 (.code (eY 99) (eB 99) (eN 99) (eT 99)) = true := by decide +kernel
set_option maxRecDepth 100000 in
theorem eK_100 : eAt 815 (.code (eY 100) (eB 100) (eN 100) (eT 100)) = true := by decide +kernel
set_option maxRecDepth 100000 in
theorem eK_101 : eAt 782 (.code (eY 101) (eB 101) (eN 101) (eT 101)) = true := by decide +kernel
set_option maxRecDepth 100000 in
theorem eK_102 : eAt 794 (.code (eY 102) (eB 102) (eN 102) (eT 102)) = true := by decide +kernel
set_option maxRecDepth 100000 in
theorem eK_103 : eAt 779 (.code (eY 103) (eB 103) (eN 103) (eT 103)) = true := by decide +kernel
set_option maxRecDepth 100000 in
theorem eK_104 : eAt 786 (.code (eY 104) (eB 104) (eN 104) (eT 104)) = true := by decide +kernel
set_option maxRecDepth 100000 in
theorem eK_105 : eAt 790 (.code (eY 105) (eB 105) (eN 105) (eT 105)) = true := by decide +kernel
set_option maxRecDepth 100000 in
theorem eK_106 : eAt 824 (.code (eY 106) (eB 106) (eN 106) (eT 106)) = true := by decide +kernel
set_option maxRecDepth 100000 in
theorem eK_107 : eAt 741 (.code (eY 107) (eB 107) (eN 107) (eT 107)) = true := by decide +kernel
set_option maxRecDepth 100000 in
theorem eK_108 : eAt 738 (.code (eY 108) (eB 108) (eN 108) (eT 108)) = true := by decide +kernel
set_option maxRecDepth 100000 in
theorem eK_109 : eAt 821 (.code (eY 109) (eB 109) (eN 109) (eT 109)) = true := by decide +kernel
set_option maxRecDepth 100000 in
theorem eK_110 : eAt 827 (.code (eY 110) (eB 110) (eN 110) (eT 110)) = true := by decide +kernel
set_option maxRecDepth 100000 in
theorem eK_111 : eAt 833 (.code (eY 111) (eB 111) (eN 111) (eT 111)) = true := by decide +kernel
set_option maxRecDepth 100000 in
theorem eK_112 : eAt 830 (.code (eY 112) (eB 112) (eN 112) (eT 112)) = true := by decide +kernel
set_option maxRecDepth 100000 in
theorem eK_113 : eAt 905 (.code (eY 113) (eB 113) (eN 113) (eT 113)) = true := by decide +kernel
set_option maxRecDepth 100000 in
theorem eK_114 : eAt 884 (.code (eY 114) (eB 114) (eN 114) (eT 114)) = true := by decide +kernel
set_option maxRecDepth 100000 in
theorem eK_115 : eAt 902 (.code (eY 115) (eB 115) (eN 115) (eT 115)) = true := by decide +kernel
set_option maxRecDepth 100000 in
theorem eK_116 : eAt 899 (.code (eY 116) (eB 116) (eN 116) (eT 116)) = true := by decide +kernel
set_option maxRecDepth 100000 in
theorem eK_117 : eAt 881 (.code (eY 117) (eB 117) (eN 117) (eT 117)) = true := by decide +kernel
set_option maxRecDepth 100000 in
theorem eK_118 : eAt 890 (.code (eY 118) (eB 118) (eN 118) (eT 118)) = true := by decide +kernel
set_option maxRecDepth 100000 in
theorem eK_119 : eAt 887 (.code (eY 119) (eB 119) (eN 119) (eT 119)) = true := by decide +kernel
set_option maxRecDepth 100000 in
theorem eK_120 : eAt 893 (.code (eY 120) (eB 120) (eN 120) (eT 120)) = true := by decide +kernel
set_option maxRecDepth 100000 in
theorem eK_121 : eAt 844 (.code (eY 121) (eB 121) (eN 121) (eT 121)) = true := by decide +kernel
set_option maxRecDepth 100000 in
theorem eK_122 : eAt 875 (.code (eY 122) (eB 122) (eN 122) (eT 122)) = true := by decide +kernel
set_option maxRecDepth 100000 in
theorem eK_123 : eAt 896 (.code (eY 123) (eB 123) (eN 123) (eT 123)) = true := by decide +kernel
set_option maxRecDepth 100000 in
theorem eK_124 : eAt 878 (.code (eY 124) (eB 124) (eN 124) (eT 124)) = true := by decide +kernel
set_option maxRecDepth 100000 in
theorem eK_125 : eAt 908 (.code (eY 125) (eB 125) (eN 125) (eT 125)) = true := by decide +kernel
set_option maxRecDepth 100000 in
theorem eK_126 : eAt 914 (.code (eY 126) (eB 126) (eN 126) (eT 126)) = true := by decide +kernel
set_option maxRecDepth 100000 in
theorem eK_127 : eAt 911 (.code (eY 127) (eB 127) (eN 127) (eT 127)) = true := by decide +kernel
set_option maxRecDepth 100000 in
theorem eK_128 : eAt 872 (.code (eY 128) (eB 128) (eN 128) (eT 128)) = true := by decide +kernel
set_option maxRecDepth 100000 in
theorem eK_129 : eAt 804 (.code (eY 129) (eB 129) (eN 129) (eT 129)) = true := by decide +kernel
set_option maxRecDepth 100000 in
theorem eK_130 : eAt 798 (.code (eY 130) (eB 130) (eN 130) (eT 130)) = true := by decide +kernel
set_option maxRecDepth 100000 in
theorem eK_131 : eAt 808 (.code (eY 131) (eB 131) (eN 131) (eT 131)) = true := by decide +kernel
set_option maxRecDepth 100000 in
theorem eK_132 : eAt 818 (.code (eY 132) (eB 132) (eN 132) (eT 132)) = true := by decide +kernel
set_option maxRecDepth 100000 in
theorem eK_133 : eAt 812 (.code (eY 133) (eB 133) (eN 133) (eT 133)) = true := by decide +kernel
set_option maxRecDepth 100000 in
theorem eK_134 : eAt 837 (.code (eY 134) (eB 134) (eN 134) (eT 134)) = true := by decide +kernel
set_option maxRecDepth 100000 in
theorem eK_135 : eAt 841 (.code (eY 135) (eB 135) (eN 135) (eT 135)) = true := by decide +kernel
set_option maxRecDepth 100000 in
theorem eK_136 : eAt 848 (.code (eY 136) (eB 136) (eN 136) (eT 136)) = true := by decide +kernel
set_option maxRecDepth 100000 in
theorem eK_137 : eAt 860 (.code (eY 137) (eB 137) (eN 137) (eT 137)) = true := by decide +kernel
set_option maxRecDepth 100000 in
theorem eK_138 : eAt 856 (.code (eY 138) (eB 138) (eN 138) (eT 138)) = true := by decide +kernel
set_option maxRecDepth 100000 in
theorem eK_139 : eAt 864 (.code (eY 139) (eB 139) (eN 139) (eT 139)) = true := by decide +kernel
set_option maxRecDepth 100000 in
theorem eK_140 : eAt 852 (.code (eY 140) (eB 140) (eN 140) (eT 140)) = true := by decide +kernel
set_option maxRecDepth 100000 in
theorem eK_141 : eAt 868 (.code (eY 141) (eB 141) (eN 141) (eT 141)) = true := by decide +kernel
set_option maxRecDepth 100000 in
theorem eK_142 : eAt 918 (.code (eY 142) (eB 142) (eN 142) (eT 142)) = true := by decide +kernel
set_option maxRecDepth 100000 in
theorem eK_143 : eAt 922 (.code (eY 143) (eB 143) (eN 143) (eT 143)) = true := by decide +kernel
set_option maxRecDepth 100000 in
theorem eK_144 : eAt 946 (.code (eY 144) (eB 144) (eN 144) (eT 144)) = true := by decide +kernel
set_option maxRecDepth 100000 in
theorem eK_145 : eAt 950 (.code (eY 145) (eB 145) (eN 145) (eT 145)) = true := by decide +kernel
set_option maxRecDepth 100000 in
theorem eK_146 : eAt 942 (.code (eY 146) (eB 146) (eN 146) (eT 146)) = true := by decide +kernel
set_option maxRecDepth 100000 in
theorem eK_147 : eAt 938 (.code (eY 147) (eB 147) (eN 147) (eT 147)) = true := by decide +kernel
set_option maxRecDepth 100000 in
theorem eK_148 : eAt 934 (.code (eY 148) (eB 148) (eN 148) (eT 148)) = true := by decide +kernel
set_option maxRecDepth 100000 in
theorem eK_149 : eAt 930 (.code (eY 149) (eB 149) (eN 149) (eT 149)) = true := by decide +kernel
set_option maxRecDepth 100000 in
theorem eK_150 : eAt 954 (.code (eY 150) (eB 150) (eN 150) (eT 150)) = true := by decide +kernel
set_option maxRecDepth 100000 in
theorem eK_151 : eAt 926 (.code (eY 151) (eB 151) (eN 151) (eT 151)) = true := by decide +kernel
set_option maxRecDepth 100000 in
theorem eK_152 : eAt 958 (.code (eY 152) (eB 152) (eN 152) (eT 152)) = true := by decide +kernel
set_option maxRecDepth 100000 in
theorem eK_153 : eAt 962 (.code (eY 153) (eB 153) (eN 153) (eT 153)) = true := by decide +kernel
set_option maxRecDepth 100000 in
theorem eK_154 : eAt 966 (.code (eY 154) (eB 154) (eN 154) (eT 154)) = true := by decide +kernel
set_option maxRecDepth 100000 in
theorem eK_155 : eAt 970 (.code (eY 155) (eB 155) (eN 155) (eT 155)) = true := by decide +kernel
set_option maxRecDepth 100000 in
theorem eK_156 : eAt 978 (.code (eY 156) (eB 156) (eN 156) (eT 156)) = true := by decide +kernel
set_option maxRecDepth 100000 in
theorem eK_157 : eAt 974 (.code (eY 157) (eB 157) (eN 157) (eT 157)) = true := by decide +kernel
set_option maxRecDepth 100000 in
theorem eK_158 : eAt 982 (.code (eY 158) (eB 158) (eN 158) (eT 158)) = true := by decide +kernel
set_option maxRecDepth 100000 in
theorem eK_159 : eAt 986 (.code (eY 159) (eB 159) (eN 159) (eT 159)) = true := by decide +kernel
set_option maxRecDepth 100000 in
theorem eK_160 : eAt 994 (.code (eY 160) (eB 160) (eN 160) (eT 160)) = true := by decide +kernel
set_option maxRecDepth 100000 in
theorem eK_161 : eAt 990 (.code (eY 161) (eB 161) (eN 161) (eT 161)) = true := by decide +kernel
set_option maxRecDepth 100000 in
theorem eK_162 : eAt 998 (.code (eY 162) (eB 162) (eN 162) (eT 162)) = true := by decide +kernel
set_option maxRecDepth 100000 in
theorem eK_163 : eAt 345 (.code (eY 163) (eB 163) (eN 163) (eT 163)) = true := by decide +kernel
set_option maxRecDepth 100000 in
theorem eK_164 : eAt 589 (.code (eY 164) (eB 164) (eN 164) (eT 164)) = true := by decide +kernel
set_option maxRecDepth 100000 in
theorem eK_165 : eAt 65 (.code (eY 165) (eB 165) (eN 165) (eT 165)) = true := by decide +kernel
def eMc (y : Nat) : Prop := Cond.code (eY y) (eB y) (eN y) (eT y) ∈ eWs
theorem eMc_0 : ∀ y ∈ [0, 1, 2, 3, 4, 5, 6, 7, 8, 9, 10, 11, 12, 13, 14, 15, 16, 17, 18, 19, 20, 21, 22, 23, 24, 25, 26, 27, 28, 29, 30, 31, 32, 33, 34, 35, 36, 37, 38, 39], eMc y := List.forall_mem_cons.mpr ⟨eAt_of eK_0, List.forall_mem_cons.mpr ⟨eAt_of eK_1, List.forall_mem_cons.mpr ⟨eAt_of eK_2, List.forall_mem_cons.mpr ⟨eAt_of eK_3, List.forall_mem_cons.mpr ⟨eAt_of eK_4, List.forall_mem_cons.mpr ⟨eAt_of eK_5, List.forall_mem_cons.mpr ⟨eAt_of eK_6, List.forall_mem_cons.mpr ⟨eAt_of eK_7, List.forall_mem_cons.mpr ⟨eAt_of eK_8, List.forall_mem_cons.mpr ⟨eAt_of eK_9, List.forall_mem_cons.mpr ⟨eAt_of eK_10, List.forall_mem_cons.mpr ⟨eAt_of eK_11, List.forall_mem_cons.mpr ⟨eAt_of eK_12, List.forall_mem_cons.mpr ⟨eAt_of eK_13, List.forall_mem_cons.mpr ⟨eAt_of eK_14, List.forall_mem_cons.mpr ⟨eAt_of eK_15, List.forall_mem_cons.mpr ⟨eAt_of eK_16, List.forall_mem_cons.mpr ⟨eAt_of eK_17, List.forall_mem_cons.mpr ⟨eAt_of eK_18, List.forall_mem_cons.mpr ⟨eAt_of eK_19, List.forall_mem_cons.mpr ⟨eAt_of eK_20, List.forall_mem_cons.mpr ⟨eAt_of eK_21, List.forall_mem_cons.mpr ⟨eAt_of eK_22, List.forall_mem_cons.mpr ⟨eAt_of eK_23, List.forall_mem_cons.mpr ⟨eAt_of eK_24, List.forall_mem_cons.mpr ⟨eAt_of eK_25, List.forall_mem_cons.mpr ⟨eAt_of eK_26, List.forall_mem_cons.mpr ⟨eAt_of eK_27, List.forall_mem_cons.mpr ⟨eAt_of eK_28, List.forall_mem_cons.mpr ⟨eAt_of eK_29, List.forall_mem_cons.mpr ⟨eAt_of eK_30, List.forall_mem_cons.mpr ⟨eAt_of eK_31, List.forall_mem_cons.mpr ⟨eAt_of eK_32, List.forall_mem_cons.mpr ⟨eAt_of eK_33, List.forall_mem_cons.mpr ⟨eAt_of eK_34, List.forall_mem_cons.mpr ⟨eAt_of eK_35, List.forall_mem_cons.mpr ⟨eAt_of eK_36, List.forall_mem_cons.mpr ⟨eAt_of eK_37, List.forall_mem_cons.mpr ⟨eAt_of eK_38, List.forall_mem_cons.mpr ⟨eAt_of eK_39, fun _ h => absurd h List.not_mem_nil⟩⟩⟩⟩⟩⟩⟩⟩⟩⟩⟩⟩⟩⟩⟩⟩⟩⟩⟩⟩⟩⟩⟩⟩⟩⟩⟩⟩⟩⟩⟩⟩⟩⟩⟩⟩⟩⟩⟩⟩
theorem eMc_40 : ∀ y ∈ [40, 41, 42, 43, 44, 45, 46, 47, 48, 49, 50, 51, 52, 53, 54, 55, 56, 57, 58, 59, 60, 61, 62, 63, 64, 65, 66, 67, 68, 69, 70, 71, 72, 73, 74, 75, 76, 77, 78, 79], eMc y := List.forall_mem_cons.mpr ⟨eAt_of eK_40, List.forall_mem_cons.mpr ⟨eAt_of eK_41, List.forall_mem_cons.mpr ⟨eAt_of eK_42, List.forall_mem_cons.mpr ⟨eAt_of eK_43, List.forall_mem_cons.mpr ⟨eAt_of eK_44, List.forall_mem_cons.mpr ⟨eAt_of eK_45, List.forall_mem_cons.mpr ⟨eAt_of eK_46, List.forall_mem_cons.mpr ⟨eAt_of eK_47, List.forall_mem_cons.mpr ⟨eAt_of eK_48, List.forall_mem_cons.mpr ⟨eAt_of eK_49, List.forall_mem_cons.mpr ⟨eAt_of eK_50, List.forall_mem_cons.mpr ⟨eAt_of eK_51, List.forall_mem_cons.mpr ⟨eAt_of eK_52, List.forall_mem_cons.mpr ⟨eAt_of eK_53, List.forall_mem_cons.mpr ⟨eAt_of eK_54, List.forall_mem_cons.mpr ⟨eAt_of eK_55, List.forall_mem_cons.mpr ⟨eAt_of eK_56, List.forall_mem_cons.mpr ⟨eAt_of eK_57, List.forall_mem_cons.mpr ⟨eAt_of eK_58, List.forall_mem_cons.mpr ⟨eAt_of eK_59, List.forall_mem_cons.mpr ⟨eAt_of eK_60, List.forall_mem_cons.mpr ⟨eAt_of eK_61, List.forall_mem_cons.mpr ⟨eAt_of eK_62, List.forall_mem_cons.mpr ⟨eAt_of eK_63, List.forall_mem_cons.mpr ⟨eAt_of eK_64, List.forall_mem_cons.mpr ⟨eAt_of eK_65, List.forall_mem_cons.mpr ⟨eAt_of eK_66, List.forall_mem_cons.mpr ⟨eAt_of eK_67, List.forall_mem_cons.mpr ⟨eAt_of eK_68, List.forall_mem_cons.mpr ⟨eAt_of eK_69, List.forall_mem_cons.mpr ⟨eAt_of eK_70, List.forall_mem_cons.mpr ⟨eAt_of eK_71, List.forall_mem_cons.mpr ⟨eAt_of eK_72, List.forall_mem_cons.mpr ⟨eAt_of eK_73, List.forall_mem_cons.mpr ⟨eAt_of eK_74, List.forall_mem_cons.mpr ⟨eAt_of eK_75, List.forall_mem_cons.mpr ⟨eAt_of eK_76, List.forall_mem_cons.mpr ⟨eAt_of eK_77, List.forall_mem_cons.mpr ⟨eAt_of eK_78, List.forall_mem_cons.mpr ⟨eAt_of eK_79, fun _ h => absurd h List.not_mem_nil⟩⟩⟩⟩⟩⟩⟩⟩⟩⟩⟩⟩⟩⟩⟩⟩⟩⟩⟩⟩⟩⟩⟩⟩⟩⟩⟩⟩⟩⟩⟩⟩⟩⟩⟩⟩⟩⟩⟩⟩
theorem eMc_80 : ∀ y ∈ [80, 81, 82, 83, 84, 85, 86, 87, 88, 89, 90, 91, 92, 93, 94, 95, 96, 97, 98, 99, 100, 101, 102, 103, 104, 105, 106, 107, 108, 109, 110, 111, 112, 113, 114, 115, 116, 117, 118, 119], eMc y := List.forall_mem_cons.mpr ⟨eAt_of eK_80, List.forall_mem_cons.mpr ⟨eAt_of eK_81, List.forall_mem_cons.mpr ⟨eAt_of eK_82, List.forall_mem_cons.mpr ⟨eAt_of eK_83, List.forall_mem_cons.mpr ⟨eAt_of eK_84, List.forall_mem_cons.mpr ⟨eAt_of eK_85, List.forall_mem_cons.mpr ⟨eAt_of eK_86, List.forall_mem_cons.mpr ⟨eAt_of eK_87, List.forall_mem_cons.mpr ⟨eAt_of eK_88, List.forall_mem_cons.mpr ⟨eAt_of eK_89, List.forall_mem_cons.mpr ⟨eAt_of eK_90, List.forall_mem_cons.mpr ⟨eAt_of eK_91, List.forall_mem_cons.mpr ⟨eAt_of eK_92, List.forall_mem_cons.mpr ⟨eAt_of eK_93, List.forall_mem_cons.mpr ⟨eAt_of eK_94, List.forall_mem_cons.mpr ⟨eAt_of eK_95, List.forall_mem_cons.mpr ⟨eAt_of eK_96, List.forall_mem_cons.mpr ⟨eAt_of eK_97, List.forall_mem_cons.mpr ⟨eAt_of eK_98, List.forall_mem_cons.mpr ⟨eAt_of eK_99, List.forall_mem_cons.mpr ⟨eAt_of eK_100, List.forall_mem_cons.mpr ⟨eAt_of eK_101, List.forall_mem_cons.mpr ⟨eAt_of eK_102, List.forall_mem_cons.mpr ⟨eAt_of eK_103, List.forall_mem_cons.mpr ⟨eAt_of eK_104, List.forall_mem_cons.mpr ⟨eAt_of eK_105, List.forall_mem_cons.mpr ⟨eAt_of eK_106, List.forall_mem_cons.mpr ⟨eAt_of eK_107, List.forall_mem_cons.mpr ⟨eAt_of eK_108, List.forall_mem_cons.mpr ⟨eAt_of eK_109, List.forall_mem_cons.mpr ⟨eAt_of eK_110, List.forall_mem_cons.mpr ⟨eAt_of eK_111, List.forall_mem_cons.mpr ⟨eAt_of eK_112, List.forall_mem_cons.mpr ⟨eAt_of eK_113, List.forall_mem_cons.mpr ⟨eAt_of eK_114, List.forall_mem_cons.mpr ⟨eAt_of eK_115, List.forall_mem_cons.mpr ⟨eAt_of eK_116, List.forall_mem_cons.mpr ⟨eAt_of eK_117, List.forall_mem_cons.mpr ⟨eAt_of eK_118, List.forall_mem_cons.mpr ⟨eAt_of eK_119, fun _ h => absurd h List.not_mem_nil⟩⟩⟩⟩⟩⟩⟩⟩⟩⟩⟩⟩⟩⟩⟩⟩⟩⟩⟩⟩⟩⟩⟩⟩⟩⟩⟩⟩⟩⟩⟩⟩⟩⟩⟩⟩⟩⟩⟩⟩
theorem eMc_120 : ∀ y ∈ [120, 121, 122, 123, 124, 125, 126, 127, 128, 129, 130, 131, 132, 133, 134, 135, 136, 137, 138, 139, 140, 141, 142, 143, 144, 145, 146, 147, 148, 149, 150, 151, 152, 153, 154, 155, 156, 157, 158, 159], eMc y := List.forall_mem_cons.mpr ⟨eAt_of eK_120, List.forall_mem_cons.mpr ⟨eAt_of eK_121, List.forall_mem_cons.mpr ⟨eAt_of eK_122, List.forall_mem_cons.mpr ⟨eAt_of eK_123, List.forall_mem_cons.mpr ⟨eAt_of eK_124, List.forall_mem_cons.mpr ⟨eAt_of eK_125, List.forall_mem_cons.mpr ⟨eAt_of eK_126, List.forall_mem_cons.mpr ⟨eAt_of eK_127, List.forall_mem_cons.mpr ⟨eAt_of eK_128, List.forall_mem_cons.mpr ⟨eAt_of eK_129, List.forall_mem_cons.mpr ⟨eAt_of eK_130, List.forall_mem_cons.mpr ⟨eAt_of eK_131, List.forall_mem_cons.mpr ⟨eAt_of eK_132, List.forall_mem_cons.mpr ⟨eAt_of eK_133, List.forall_mem_cons.mpr ⟨eAt_of eK_134, List.forall_mem_cons.mpr ⟨eAt_of eK_135, List.forall_mem_cons.mpr ⟨eAt_of eK_136, List.forall_mem_cons.mpr ⟨eAt_of eK_137, List.forall_mem_cons.mpr ⟨eAt_of eK_138, List.forall_mem_cons.mpr ⟨eAt_of eK_139, List.forall_mem_cons.mpr ⟨eAt_of eK_140, List.forall_mem_cons.mpr ⟨eAt_of eK_141, List.forall_mem_cons.mpr ⟨eAt_of eK_142, List.forall_mem_cons.mpr ⟨eAt_of eK_143, List.forall_mem_cons.mpr ⟨eAt_of eK_144, List.forall_mem_cons.mpr ⟨eAt_of eK_145, List.forall_mem_cons.mpr ⟨eAt_of eK_146, List.forall_mem_cons.mpr ⟨eAt_of eK_147, List.forall_mem_cons.mpr ⟨eAt_of eK_148, List.forall_mem_cons.mpr ⟨eAt_of eK_149, List.forall_mem_cons.mpr ⟨eAt_of eK_150, List.forall_mem_cons.mpr ⟨eAt_of eK_151, List.forall_mem_cons.mpr ⟨eAt_of eK_152, List.forall_mem_cons.mpr ⟨eAt_of eK_153, List.forall_mem_cons.mpr ⟨eAt_of eK_154, List.forall_mem_cons.mpr ⟨eAt_of eK_155, List.forall_mem_cons.mpr ⟨eAt_of eK_156, List.forall_mem_cons.mpr ⟨eAt_of eK_157, List.forall_mem_cons.mpr ⟨eAt_of eK_158, List.forall_mem_cons.mpr ⟨eAt_of eK_159, fun _ h => absurd h List.not_mem_nil⟩⟩⟩⟩⟩⟩⟩⟩⟩⟩⟩⟩⟩⟩⟩⟩⟩⟩⟩⟩⟩⟩⟩⟩⟩⟩⟩⟩⟩⟩⟩⟩⟩⟩⟩⟩⟩⟩⟩⟩
theorem eMc_160 : ∀ y ∈ [160, 161, 162, 163, 164, 165], eMc y := List.forall_mem_cons.mpr ⟨eAt_of eK_160, List.forall_mem_cons.mpr ⟨eAt_of eK_161, List.forall_mem_cons.mpr ⟨eAt_of eK_162, List.forall_mem_cons.mpr ⟨eAt_of eK_163, List.forall_mem_cons.mpr ⟨eAt_of eK_164, List.forall_mem_cons.mpr ⟨eAt_of eK_165, fun _ h => absurd h List.not_mem_nil⟩⟩⟩⟩⟩⟩
theorem eMc_all : ∀ y ∈ [0, 1, 2, 3, 4, 5, 6, 7, 8, 9, 10, 11, 12, 13, 14, 15, 16, 17, 18, 19, 20, 21, 22, 23, 24, 25, 26, 27, 28, 29, 30, 31, 32, 33, 34, 35, 36, 37, 38, 39] ++ [40, 41, 42, 43, 44, 45, 46, 47, 48, 49, 50, 51, 52, 53, 54, 55, 56, 57, 58, 59, 60, 61, 62, 63, 64, 65, 66, 67, 68, 69, 70, 71, 72, 73, 74, 75, 76, 77, 78, 79] ++ [80, 81, 82, 83, 84, 85, 86, 87, 88, 89, 90, 91, 92, 93, 94, 95, 96, 97, 98, 99, 100, 101, 102, 103, 104, 105, 106, 107, 108, 109, 110, 111, 112, 113, 114, 115, 116, 117, 118, 119] ++ [120, 121, 122, 123, 124, 125, 126, 127, 128, 129, 130, 131, 132, 133, 134, 135, 136, 137, 138, 139, 140, 141, 142, 143, 144, 145, 146, 147, 148, 149, 150, 151, 152, 153, 154, 155, 156, 157, 158, 159] ++ [160, 161, 162, 163, 164, 165], eMc y := by
  intro y h
  simp only [List.mem_append] at h
  rcases h with ((((h | h) | h) | h) | h)
  · exact eMc_0 y h
  · exact eMc_40 y h
  · exact eMc_80 y h
  · exact eMc_120 y h
  · exact eMc_160 y h
theorem eM_len : eMp.length = 166 := by decide +kernel
theorem eMc_of {y : Nat} (h : y < eMp.length) : Cond.code (eY y) (eB y) (eN y) (eT y) ∈ eWs := by
  rw [eM_len] at h
  exact eMc_all y ((show [0, 1, 2, 3, 4, 5, 6, 7, 8, 9, 10, 11, 12, 13, 14, 15, 16, 17, 18, 19, 20, 21, 22, 23, 24, 25, 26, 27, 28, 29, 30, 31, 32, 33, 34, 35, 36, 37, 38, 39] ++ [40, 41, 42, 43, 44, 45, 46, 47, 48, 49, 50, 51, 52, 53, 54, 55, 56, 57, 58, 59, 60, 61, 62, 63, 64, 65, 66, 67, 68, 69, 70, 71, 72, 73, 74, 75, 76, 77, 78, 79] ++ [80, 81, 82, 83, 84, 85, 86, 87, 88, 89, 90, 91, 92, 93, 94, 95, 96, 97, 98, 99, 100, 101, 102, 103, 104, 105, 106, 107, 108, 109, 110, 111, 112, 113, 114, 115, 116, 117, 118, 119] ++ [120, 121, 122, 123, 124, 125, 126, 127, 128, 129, 130, 131, 132, 133, 134, 135, 136, 137, 138, 139, 140, 141, 142, 143, 144, 145, 146, 147, 148, 149, 150, 151, 152, 153, 154, 155, 156, 157, 158, 159] ++ [160, 161, 162, 163, 164, 165] = List.range 166 by decide +kernel) ▸ List.mem_range.mpr h)
def eCchk (e : Nat × Nat × Nat × Nat × Nat) : Bool := if e.2.2.1 = 0 then eAt e.2.2.2.2 (.methodLink (eR e.1) e.2.1 (eY e.2.2.2.1)) && eSt.getD e.2.2.2.1 false && decide (e.2.2.2.1 < eMp.length)
  else if e.2.2.1 = 1 then eAt e.2.2.2.2 (.methodLink (eR e.1) e.2.1 (eY e.2.2.2.1)) && !eSt.getD e.2.2.2.1 false && !eI e.2.2.2.1 && decide (e.2.2.2.1 < eMp.length)
  else if e.2.2.1 = 2 then eAt e.2.2.2.2 (.methodLink (eR e.1) e.2.1 (eY e.2.2.2.1)) && !eSt.getD e.2.2.2.1 false && eI e.2.2.2.1 && decide (e.2.2.2.1 < eMp.length)
  else if e.2.2.1 = 3 then (match lw_tbl[e.2.2.2.2]? with | some (.methodLinkNest a b x host) => decide (a = eR e.1) && decide (b = e.2.1) && decide (x = eY e.2.2.2.1) | _ => false) && eSt.getD e.2.2.2.1 false && decide (e.2.2.2.1 < eMp.length)
  else if e.2.2.1 = 4 then eAt e.2.2.2.2 (.methodLink (eR e.1) e.2.1 objectInit)
  else if e.2.2.1 = 5 then eAt e.2.2.2.2 (.methodLink (eR e.1) e.2.1 arraycopyName)
  else false
set_option maxRecDepth 100000 in
theorem eCl_ok : eCl.all eCchk = true := by decide +kernel
def eSchk (e : Nat × Nat × Nat × Nat × Nat) : Bool := match eSn[e.2.2.1 - 1]? with
  | some f => decide (1 ≤ e.2.2.1) && (if e.2.2.2.1 = 0 then eAt e.2.2.2.2 (.fieldLink (eR e.1) e.2.1 f.1 f.2 "[I") else match lw_tbl[e.2.2.2.2]? with | some (.fieldLinkNest a b c n d host) => decide (a = eR e.1) && decide (b = e.2.1) && decide (c = f.1) && decide (n = f.2) && decide (d = "[I") | _ => false)
  | none => false
set_option maxRecDepth 100000 in
theorem eSl_ok : eSl.all eSchk = true := by decide +kernel
def eNchk (e : Nat × Nat × Nat × Nat) : Bool := if e.2.2.1 < 100 then (match vwCl[e.2.2.1]? with | some q => eAt e.2.2.2 (.classLink (eR e.1) e.2.1 q.1) | none => false)
  else if e.2.2.1 = 102 then eAt e.2.2.2 (.classLink (eR e.1) e.2.1 "LampChanger$Lamp") else if e.2.2.1 = 103 then eAt e.2.2.2 (.classLink (eR e.1) e.2.1 "LampChanger$Beacon") else false
set_option maxRecDepth 100000 in
theorem eNl_ok : eNl.all eNchk = true := by decide +kernel
def eKchk (e : Nat × Nat × Int × Nat) : Bool := eAt e.2.2.2 (.constant (eR e.1) e.2.1 (Int32.ofInt e.2.2.1)) && decide (-2147483648 ≤ e.2.2.1) && decide (e.2.2.1 ≤ 2147483647)
set_option maxRecDepth 100000 in
theorem eKl_ok : eKl.all eKchk = true := by decide +kernel
/-- the classes: their fields' words, types, names; that they can be made -/
def eVchk (q : vw_C) : Bool := (u_ws q.1 q.2.1 q.2.2).all (fun w => decide (w ∈ lw_tbl) && goodWord w) && decide (Cond.instantiable q.1 q.2.2 ∈ lw_tbl) && decide (Cond.initialized q.1 ∈ lw_tbl) && goodWord (Cond.instantiable q.1 q.2.2) && goodWord (Cond.initialized q.1)
set_option maxRecDepth 100000 in
theorem eV_ok : vwCl.all eVchk = true := by decide +kernel
theorem eOther1 : Cond.instanceMethod objectInit ∈ eWs := List.mem_filter.mpr ⟨by decide +kernel, by decide +kernel⟩
theorem eOther2 : Cond.code objectInit ⟨#[0xb1]⟩ 1 none ∈ eWs := List.mem_filter.mpr ⟨by decide +kernel, by decide +kernel⟩
theorem eOther3 : Cond.native arraycopyName ∈ eWs := List.mem_filter.mpr ⟨by decide +kernel, by decide +kernel⟩
theorem eOther4 : Cond.static arraycopyName ∈ eWs := List.mem_filter.mpr ⟨by decide +kernel, by decide +kernel⟩
theorem eOther5 : Cond.initialized "java/lang/System" ∈ eWs := List.mem_filter.mpr ⟨by decide +kernel, by decide +kernel⟩
theorem eOther6 : Cond.arrayClass .int ∈ eWs := List.mem_filter.mpr ⟨by decide +kernel, by decide +kernel⟩
theorem eOther7 : Cond.arrayClass .char ∈ eWs := List.mem_filter.mpr ⟨by decide +kernel, by decide +kernel⟩
end
section
/-! the evaluator: a run of bytecode over numbers and numbered cells. Cells 0 to 7: 0 is null, 1 to 6 the static arrays, 7 the script; what is made comes behind -/
abbrev eV : Type := Int ⊕ Nat
abbrev eC : Type := Nat × List eV
abbrev eH : Type := List eC
abbrev eRes : Type := Option (Option eV × eH)
abbrev eK : Type := Nat → Nat → List eV → List eV → eH → eRes
def w32 (x : Int) : Int := (Int32.ofInt x).toInt
def eDv : List (List eV) := vwCl.map fun q => (List.range q.2.2).map fun k => if eRefTy (parseFieldDescriptor (q.2.1 k).2.2.1) then .inr 0 else .inl 0
def eCmp (c : Jvm.ClassFile.Cond) (x y : Int) : Bool := match c with
  | .eq => decide (x = y)
  | .ne => decide (¬ x = y)
  | .lt => decide (x < y)
  | .ge => decide (y ≤ x)
  | .gt => decide (y < x)
  | .le => decide (x ≤ y)
def eJ (f : eK) (y pc : Nat) (off : Int) (ls st : List eV) (h : eH) : eRes := if 0 ≤ (pc : Int) + off then f y ((pc : Int) + off).toNat ls st h else none
def xAld (f : eK) (y pc k : Nat) (ls st : List eV) (h : eH) : eRes := match ls[k]? with
  | some (.inr a) => if a = 0 then none else f y pc ls (.inr a :: st) h
  | _ => none
def xIld (f : eK) (y pc k : Nat) (ls st : List eV) (h : eH) : eRes := match ls[k]? with
  | some (.inl x) => f y pc ls (.inl x :: st) h
  | _ => none
def xAst (f : eK) (y pc k : Nat) (ls st : List eV) (h : eH) : eRes := match st with
  | .inr a :: st => if a = 0 then none else if k < ls.length then f y pc (ls.set k (.inr a)) st h else none
  | _ => none
def xIst (f : eK) (y pc k : Nat) (ls st : List eV) (h : eH) : eRes := match st with
  | .inl x :: st => if k < ls.length then f y pc (ls.set k (.inl x)) st h else none
  | _ => none
def xPush (f : eK) (y pc : Nat) (v : eV) (ls st : List eV) (h : eH) : eRes := f y pc ls (v :: st) h
def xBin (f : eK) (y pc : Nat) (op : Int → Int → Int) (ls st : List eV) (h : eH) : eRes := match st with
  | .inl b :: .inl a :: st => f y pc ls (.inl (op a b) :: st) h
  | _ => none
def xBin0 (f : eK) (y pc : Nat) (op : Int → Int → Int) (ls st : List eV) (h : eH) : eRes := match st with
  | .inl b :: .inl a :: st => if b = 0 then none else f y pc ls (.inl (op a b) :: st) h
  | _ => none
def xIf (f : eK) (y pc : Nat) (c : Jvm.ClassFile.Cond) (off : Int) (ls st : List eV) (h : eH) : eRes := match st with
  | .inl a :: st => if 0 ≤ (pc : Int) + off then (if eCmp c a 0 = true then f y ((pc : Int) + off).toNat ls st h else f y (pc + 3) ls st h) else none
  | _ => none
def xIcmp (f : eK) (y pc : Nat) (c : Jvm.ClassFile.Cond) (off : Int) (ls st : List eV) (h : eH) : eRes := match st with
  | .inl b :: .inl a :: st => if 0 ≤ (pc : Int) + off then (if eCmp c a b = true then f y ((pc : Int) + off).toNat ls st h else f y (pc + 3) ls st h) else none
  | _ => none
def xNul (f : eK) (y pc : Nat) (jump : Bool) (off : Int) (ls st : List eV) (h : eH) : eRes := match st with
  | .inr a :: st => if a = 0 then none else if jump then eJ f y pc off ls st h else f y (pc + 3) ls st h
  | _ => none
def eArr (a t : Nat) : Bool := t == 100 || (decide (8 ≤ a) && (t == 101 || t == 102 || t == 103))
def xAlen (f : eK) (y pc : Nat) (ls st : List eV) (h : eH) : eRes := match st with
  | .inr a :: st => match h[a]? with
    | some c => if eArr a c.1 = true ∧ a ≠ 0 ∧ c.2.length < 2147483648 then f y pc ls (.inl c.2.length :: st) h else none
    | none => none
  | _ => none
def xIald (f : eK) (y pc t : Nat) (ls st : List eV) (h : eH) : eRes := match st with
  | .inl i :: .inr a :: st => match h[a]? with
    | some c => if c.1 = t ∧ 0 ≤ i ∧ a ≠ 0 then (match c.2[i.toNat]? with
      | some (.inl x) => f y pc ls (.inl x :: st) h
      | _ => none) else none
    | none => none
  | _ => none
def xAald (f : eK) (y pc : Nat) (ls st : List eV) (h : eH) : eRes := match st with
  | .inl i :: .inr a :: st => match h[a]? with
    | some c => if (c.1 = 102 ∨ c.1 = 103) ∧ 0 ≤ i ∧ 8 ≤ a then (match c.2[i.toNat]? with
      | some (.inr x) => f y pc ls (.inr x :: st) h
      | _ => none) else none
    | none => none
  | _ => none
def xIastore (f : eK) (y pc t : Nat) (ls st : List eV) (h : eH) : eRes := match st with
  | .inl x :: .inl i :: .inr a :: st => match h[a]? with
    | some c => if c.1 = t ∧ 0 ≤ i ∧ i.toNat < c.2.length ∧ 8 ≤ a ∧ (t = 101 → 0 ≤ x ∧ x < 65536) then f y pc ls st (h.set a (c.1, c.2.set i.toNat (.inl x))) else none
    | none => none
  | _ => none
def xAastore (f : eK) (y pc : Nat) (ls st : List eV) (h : eH) : eRes := match st with
  | .inr x :: .inl i :: .inr a :: st => match h[a]?, h[x]? with
    | some c, some d => if (c.1 = 102 ∧ d.1 = 3 ∨ c.1 = 103 ∧ d.1 = 0) ∧ 0 ≤ i ∧ i.toNat < c.2.length ∧ 8 ≤ a ∧ 8 ≤ x then f y pc ls st (h.set a (c.1, c.2.set i.toNat (.inr x))) else none
    | _, _ => none
  | _ => none
def xGet (f : eK) (y pc idx : Nat) (ls st : List eV) (h : eH) : eRes := match st with
  | .inr a :: st => match eFk (eO y) idx, h[a]? with
    | some q, some c => if c.1 = q.1 ∧ 8 ≤ a then (match c.2[q.2.1]? with
      | some v => f y (pc + 3) ls (v :: st) h
      | none => none) else none
    | _, _ => none
  | _ => none
def eFit (t : Nat) (v : eV) : Bool := match v with
  | .inl x => t == 0 || (t == 1 && (x == 0 || x == 1))
  | .inr a => t == 2 && a != 0
def eFin (q : Nat × Nat × Nat) : Bool := match vwCl[q.1]? with
  | some r => (r.2.1 q.2.1).2.2.2
  | none => true
def xPut (f : eK) (y pc idx : Nat) (ls st : List eV) (h : eH) : eRes := match st with
  | v :: .inr a :: st => match eFk (eO y) idx, h[a]? with
    | some q, some c => if c.1 = q.1 ∧ 8 ≤ a ∧ q.2.1 < c.2.length ∧ eFit q.2.2 v = true ∧ (eFin q = false ∨ (eI y = true ∧ eG (eO y) = q.1 ∧ eO y < 10)) then f y (pc + 3) ls st (h.set a (c.1, c.2.set q.2.1 v)) else none
    | _, _ => none
  | _ => none
def xNew (f : eK) (y pc idx : Nat) (ls st : List eV) (h : eH) : eRes := match eNk (eO y) idx with
  | some t => if t < 100 then (match eDv[t]? with
    | some l => f y (pc + 3) ls (.inr h.length :: st) (h ++ [(t, l)])
    | none => none) else none
  | none => none
def xNewa (f : eK) (y pc t : Nat) (z : eV) (ls st : List eV) (h : eH) : eRes := match st with
  | .inl n :: st => if 0 ≤ n ∧ n < 1000000 then f y pc ls (.inr h.length :: st) (h ++ [(t, List.replicate n.toNat z)]) else none
  | _ => none
def xRow (l1 l2 : List eV) (sp dp n : Nat) : List eV := (List.range l2.length).map fun k => if dp ≤ k ∧ k < dp + n then l1.getD (sp + (k - dp)) (.inl 0) else l2.getD k (.inl 0)
def xCopy (f : eK) (y pc : Nat) (ls st : List eV) (h : eH) : eRes := match st with
  | .inl n :: .inl dp :: .inr d :: .inl sp :: .inr s :: st => match h[s]?, h[d]? with
    | some cs, some cd => if cs.1 = 100 ∧ cd.1 = 100 ∧ s ≠ 0 ∧ 8 ≤ d ∧ 0 ≤ sp ∧ 0 ≤ dp ∧ 0 ≤ n ∧ sp.toNat + n.toNat ≤ cs.2.length ∧ dp.toNat + n.toNat ≤ cd.2.length ∧ st.length ≤ 8 ∧ 1 ≤ eF y ∧ 26 ≤ eL y then
        f y (pc + 3) ls st (h.set d (100, xRow cs.2 cd.2 sp.toNat dp.toNat n.toNat)) else none
    | _, _ => none
  | _ => none
def eLoc (y : Nat) (vs : List eV) : List eV := vs ++ List.replicate (eN y - vs.length) (.inr 0)
def eRoom (y y2 : Nat) : Bool := decide (eF y2 + 1 ≤ eF y) && decide (8 + (eN y2 + 11) + eL y2 ≤ eL y)
def xRun (f : eK) (y pc y2 : Nat) (vs ls st : List eV) (h : eH) : eRes := if eRoom y y2 = true ∧ vs.length ≤ eN y2 ∧ st.length ≤ 8 then (match f y2 0 (eLoc y2 vs) [] h with
  | some r => f y (pc + 3) ls (r.1.toList ++ st) r.2
  | none => none) else none
def xCall (f : eK) (k0 : Nat) (y pc idx : Nat) (ls st : List eV) (h : eH) : eRes := match eCk (eO y) idx with
  | some q => if k0 = 0 then (if (q.1 = 0 ∨ q.1 = 3) ∧ eA q.2 ≤ st.length then xRun f y pc q.2 (st.take (eA q.2)).reverse ls (st.drop (eA q.2)) h else if q.1 = 5 then xCopy f y pc ls st h else none)
    else if k0 = 1 then (if q.1 = 1 ∧ eA q.2 ≤ st.length then (match st.drop (eA q.2) with
      | .inr b :: rest => (match h[b]? with
        | some c => if c.1 = eG (eO q.2) ∧ 8 ≤ b then xRun f y pc q.2 (.inr b :: (st.take (eA q.2)).reverse) ls rest h else none
        | none => none)
      | _ => none) else none)
    else (if q.1 = 2 ∧ eA q.2 ≤ st.length then (match st.drop (eA q.2) with
      | .inr b :: rest => if 8 ≤ b then xRun f y pc q.2 (.inr b :: (st.take (eA q.2)).reverse) ls rest h else none
      | _ => none) else if q.1 = 4 then (match st with
      | .inr b :: rest => if 8 ≤ b ∧ rest.length ≤ 8 ∧ 1 ≤ eF y ∧ 20 ≤ eL y then f y (pc + 3) ls rest h else none
      | _ => none) else none)
  | none => none
def eRetI (y : Nat) (x : Int) : Bool := decide (eT y = some .int) || (decide (eT y = some .boolean) && (x == 0 || x == 1))
def eRetR (y : Nat) : Bool := match eT y with
  | some (.object _) => true
  | _ => false
def exI (f : eK) (y pc : Nat) (i : Instr) (len : Nat) (ls st : List eV) (h : eH) : eRes := match i with
  | .aload k => if len = 2 then xAld f y (pc + 2) k ls st h else none
  | .aload_n k => if len = 1 then xAld f y (pc + 1) k ls st h else none
  | .iload k => if len = 2 then xIld f y (pc + 2) k ls st h else none
  | .iload_n k => if len = 1 then xIld f y (pc + 1) k ls st h else none
  | .astore k => if len = 2 then xAst f y (pc + 2) k ls st h else none
  | .astore_n k => if len = 1 then xAst f y (pc + 1) k ls st h else none
  | .istore k => if len = 2 then xIst f y (pc + 2) k ls st h else none
  | .istore_n k => if len = 1 then xIst f y (pc + 1) k ls st h else none
  | .iconst n => if len = 1 ∧ w32 n = n then xPush f y (pc + 1) (.inl n) ls st h else none
  | .bipush n => if len = 2 ∧ (Int8.ofInt n).toInt32 = Int32.ofInt n ∧ w32 n = n then xPush f y (pc + 2) (.inl n) ls st h else none
  | .sipush n => if len = 3 ∧ (Int16.ofInt n).toInt32 = Int32.ofInt n ∧ w32 n = n then xPush f y (pc + 3) (.inl n) ls st h else none
  | .ldc k => if len = 2 then (match eKk (eO y) k with
    | some n => xPush f y (pc + 2) (.inl n) ls st h
    | none => none) else none
  | .iadd => if len = 1 then xBin f y (pc + 1) (fun a b => w32 (a + b)) ls st h else none
  | .isub => if len = 1 then xBin f y (pc + 1) (fun a b => w32 (a - b)) ls st h else none
  | .imul => if len = 1 then xBin f y (pc + 1) (fun a b => w32 (a * b)) ls st h else none
  | .idiv => if len = 1 then xBin0 f y (pc + 1) (fun a b => w32 (a.tdiv b)) ls st h else none
  | .irem => if len = 1 then xBin0 f y (pc + 1) (fun a b => w32 (a.tmod b)) ls st h else none
  | .iand => if len = 1 then xBin f y (pc + 1) (fun a b => (Int32.ofInt a &&& Int32.ofInt b).toInt) ls st h else none
  | .ixor => if len = 1 then xBin f y (pc + 1) (fun a b => (Int32.ofInt a ^^^ Int32.ofInt b).toInt) ls st h else none
  | .i2c => if len = 1 then (match st with
    | .inl a :: st => f y (pc + 1) ls (.inl ((Int32.ofInt a).toUInt32 % 65536).toInt32.toInt :: st) h
    | _ => none) else none
  | .iinc k n => if len = 3 ∧ k < ls.length then (match ls[k]? with
    | some (.inl x) => f y (pc + 3) (ls.set k (.inl (w32 (x + n)))) st h
    | _ => none) else none
  | .dup => if len = 1 then (match st with
    | a :: st => f y (pc + 1) ls (a :: a :: st) h
    | _ => none) else none
  | .pop => if len = 1 then (match st with
    | _ :: st => f y (pc + 1) ls st h
    | _ => none) else none
  | .dup2 => if len = 1 then (match st with
    | a :: b :: st => f y (pc + 1) ls (a :: b :: a :: b :: st) h
    | _ => none) else none
  | .ifCond c off => if len = 3 then xIf f y pc c off ls st h else none
  | .if_icmp c off => if len = 3 then xIcmp f y pc c off ls st h else none
  | .goto off => if len = 3 then eJ f y pc off ls st h else none
  | .ifnull off => if len = 3 then xNul f y pc false off ls st h else none
  | .ifnonnull off => if len = 3 then xNul f y pc true off ls st h else none
  | .arraylength => if len = 1 then xAlen f y (pc + 1) ls st h else none
  | .iaload => if len = 1 then xIald f y (pc + 1) 100 ls st h else none
  | .caload => if len = 1 then (match st with
    | .inl i :: .inr a :: rest => if 8 ≤ a then xIald f y (pc + 1) 101 ls (.inl i :: .inr a :: rest) h else none
    | _ => none) else none
  | .aaload => if len = 1 then xAald f y (pc + 1) ls st h else none
  | .iastore => if len = 1 then xIastore f y (pc + 1) 100 ls st h else none
  | .castore => if len = 1 then xIastore f y (pc + 1) 101 ls st h else none
  | .aastore => if len = 1 then xAastore f y (pc + 1) ls st h else none
  | .getfield idx => if len = 3 then xGet f y pc idx ls st h else none
  | .putfield idx => if len = 3 then xPut f y pc idx ls st h else none
  | .getstatic idx => if len = 3 then (match eSk (eO y) idx with
    | some j => f y (pc + 3) ls (.inr j :: st) h
    | none => none) else none
  | .new idx => if len = 3 then xNew f y pc idx ls st h else none
  | .newarray t => if len = 2 then (match t with
    | .int => xNewa f y (pc + 2) 100 (.inl 0) ls st h
    | .char => xNewa f y (pc + 2) 101 (.inl 0) ls st h
    | _ => none) else none
  | .anewarray idx => if len = 3 then (match eNk (eO y) idx with
    | some t => if t = 102 ∨ t = 103 then xNewa f y (pc + 3) t (.inr 0) ls st h else none
    | none => none) else none
  | .invokestatic idx => if len = 3 then xCall f 0 y pc idx ls st h else none
  | .invokevirtual idx => if len = 3 then xCall f 1 y pc idx ls st h else none
  | .invokespecial idx => if len = 3 then xCall f 2 y pc idx ls st h else none
  | .tableswitch dflt lo hi offs => (match st with
    | .inl x :: st => if x < lo ∨ hi < x then eJ f y pc dflt ls st h else (match offs[(x - lo).toNat]? with
      | some off => eJ f y pc off ls st h
      | none => none)
    | _ => none)
  | .lookupswitch dflt ps => if (ps.toList.zip (ps.toList.drop 1)).all (fun (a, next) => a.1 < next.1) = true then (match st with
    | .inl x :: st => eJ f y pc (Op.lookupswitch.offset ps.toList dflt x) ls st h
    | _ => none) else none
  | .ireturn => if len = 1 then (match st with
    | [.inl x] => if eRetI y x = true then some (some (.inl x), h) else none
    | _ => none) else none
  | .areturn => if len = 1 then (match st with
    | [.inr a] => if eRetR y = true ∧ a ≠ 0 then some (some (.inr a), h) else none
    | _ => none) else none
  | .return_ => if len = 1 ∧ eT y = none ∧ st = [] then some (none, h) else none
  | _ => none
def ex : Nat → eK
  | 0 => fun _ _ _ _ _ => none
  | n + 1 => fun y pc ls st h => match decode (eB y) pc with
    | .ok (i, len) => exI (ex n) y pc i len ls st h
    | _ => none
end
section
/-! numbered cells as cells of the machine: number k at or beyond 8 lies at the address g.1 + (k - 8); 1 to 7 are old cells at g.2.1 k -/
abbrev eGt : Type := Nat × (Nat → Nat) × va_G × (Nat → ClassId)
def eAd (g : eGt) (k : Nat) : Nat := if k < 8 then g.2.1 k else g.1 + (k - 8)
def eTr (g : eGt) (v : eV) : Value := match v with
  | .inl x => .int (Int32.ofInt x)
  | .inr k => if k = 0 then .null else .ref (eAd g k)
def eVi (v : eV) : Int := match v with
  | .inl x => x
  | .inr _ => 0
def eRo (g : eGt) (v : eV) : Option Nat := match v with
  | .inl _ => none
  | .inr k => if k = 0 then none else some (eAd g k)
def eEn (g : eGt) (c : eC) : va_E := if c.1 < 100 then .inr (c.1, c.2.map (eTr g)) else if c.1 < 102 then .inl (g.2.2.2 (c.1 - 100), c.2.length, .inl (fun j => Int32.ofInt (eVi (c.2.getD j (.inl 0)))))
  else .inl (g.2.2.2 (c.1 - 100), c.2.length, .inr (.inr (.inr (.inr (fun j => eRo g (c.2.getD j (.inl 0)))))))
def eWl (g : eGt) (h : eH) : va_W := (List.range (h.length - 8)).map fun i => (g.1 + i, eEn g (h.getD (i + 8) (0, [])))
abbrev eAr (g : eGt) : Nat → Prop := fun q => g.1 ≤ q
def eSz (h : eH) : Nat := ((h.drop 8).map fun c => c.2.length).sum
def eTys (g : eGt) : List (ClassId × FieldType) := [(g.2.2.2 0, .int), (g.2.2.2 1, .char), (g.2.2.2 2, .object "LampChanger$Lamp"), (g.2.2.2 3, .object "LampChanger$Beacon")]
theorem eWl_get {g : eGt} {h : eH} {k : Nat} {c : eC} (hk : h[k]? = some c) (h8 : 8 ≤ k) : (eWl g h)[k - 8]? = some (g.1 + (k - 8), eEn g c) := by
  have hl := (List.getElem?_eq_some_iff.mp hk).1
  unfold eWl
  rw [List.getElem?_map, List.getElem?_range (by omega)]
  simp only [Option.map_some, Nat.sub_add_cancel h8, List.getD_eq_getElem?_getD, hk, Option.getD_some]
theorem eWl_len {g : eGt} {h : eH} : (eWl g h).length = h.length - 8 := by simp [eWl]
theorem eWl_set {g : eGt} {h : eH} {k : Nat} {c : eC} (h8 : 8 ≤ k) (hl : k < h.length) : eWl g (h.set k c) = (eWl g h).set (k - 8) (g.1 + (k - 8), eEn g c) := by
  apply List.ext_getElem?
  intro i
  by_cases hi : i = k - 8
  · subst hi
    rw [List.getElem?_set_self (by rw [eWl_len]; omega)]
    exact eWl_get (by rw [List.getElem?_set_self hl]) h8
  · rw [List.getElem?_set_ne (fun q => hi q.symm)]
    unfold eWl
    rw [List.length_set, List.getElem?_map, List.getElem?_map]
    by_cases hlt : i < h.length - 8
    · rw [List.getElem?_range hlt]
      simp only [Option.map_some, List.getD_eq_getElem?_getD]
      rw [List.getElem?_set_ne (by omega)]
    · rw [List.getElem?_eq_none (by rw [List.length_range]; omega)]
      rfl
theorem eWl_push {g : eGt} {h : eH} {c : eC} (h8 : 8 ≤ h.length) : eWl g (h ++ [c]) = eWl g h ++ [(g.1 + (h.length - 8), eEn g c)] := by
  apply List.ext_getElem?
  intro i
  unfold eWl
  rw [List.length_append, List.length_singleton, show h.length + 1 - 8 = (h.length - 8) + 1 by omega, List.range_succ, List.map_append, List.map_singleton]
  rw [show (h ++ [c]).getD (h.length - 8 + 8) (0, []) = c by rw [Nat.sub_add_cancel h8]; simp]
  congr 2
  apply List.map_congr_left
  intro j hj
  rw [List.mem_range] at hj
  rw [List.getD_eq_getElem?_getD, List.getElem?_append_left (by omega), ← List.getD_eq_getElem?_getD]
theorem eWl_D {g : eGt} {h : eH} : va_D (eAr g) (eWl g h) := by
  have key : ∀ (k : Nat) (q : Nat × va_E), (eWl g h)[k]? = some q → q.1 = g.1 + k := by
    intro k q hq
    unfold eWl at hq
    rw [List.getElem?_map] at hq
    cases hr : (List.range (h.length - 8))[k]? with
    | none => rw [hr] at hq; cases hq
    | some j =>
      rw [hr] at hq
      have hj : j = k := by
        obtain ⟨h1, h2⟩ := List.getElem?_eq_some_iff.mp hr
        rw [List.getElem_range] at h2
        exact h2.symm
      subst hj
      cases hq
      rfl
  refine ⟨fun i j p q hi hj hpq => ?_, fun k q hk => ?_⟩
  · have h1 := key i p hi
    have h2 := key j q hj
    omega
  · have h1 := key k q hk
    show g.1 ≤ q.1
    omega
theorem eSz_push {h : eH} {c : eC} (h8 : 8 ≤ h.length) : eSz (h ++ [c]) = eSz h + c.2.length := by
  unfold eSz
  rw [List.drop_append_of_le_length h8]
  simp
theorem eSz_set {h : eH} {k : Nat} {c c' : eC} (hk : h[k]? = some c) (hl : c'.2.length = c.2.length) : eSz (h.set k c') = eSz h := by
  unfold eSz
  congr 1
  apply List.ext_getElem?
  intro i
  rw [List.getElem?_map, List.getElem?_map, List.getElem?_drop, List.getElem?_drop]
  by_cases hi : 8 + i = k
  · rw [hi, List.getElem?_set_self (List.getElem?_eq_some_iff.mp hk).1, hk]
    simp [hl]
  · rw [List.getElem?_set_ne (fun q => hi q.symm)]
def eGr (h h2 : eH) : Prop := h.length ≤ h2.length ∧ eSz h ≤ eSz h2 ∧ ∀ j, j < 8 → h2[j]? = h[j]?
theorem eGr.refl {h : eH} : eGr h h := ⟨Nat.le_refl _, Nat.le_refl _, fun _ _ => rfl⟩
theorem eGr.trans {a b c : eH} (h : eGr a b) (k : eGr b c) : eGr a c := ⟨Nat.le_trans h.1 k.1, Nat.le_trans h.2.1 k.2.1, fun j hj => (k.2.2 j hj).trans (h.2.2 j hj)⟩
theorem eGr_set {h : eH} {k : Nat} {c c' : eC} (hk : h[k]? = some c) (hl : c'.2.length = c.2.length) (h8 : 8 ≤ k) : eGr h (h.set k c') :=
  ⟨by simp, by rw [eSz_set hk hl]; exact Nat.le_refl _, fun j hj => by rw [List.getElem?_set_ne (by omega)]⟩
theorem eGr_push {h : eH} {c : eC} (h8 : 8 ≤ h.length) : eGr h (h ++ [c]) :=
  ⟨by simp, by rw [eSz_push h8]; omega, fun j hj => by rw [List.getElem?_append_left (by omega)]⟩
/-! values within the range of an int -/
def eOkV (v : eV) : Prop := ∀ x, v = .inl x → -2147483648 ≤ x ∧ x ≤ 2147483647
def eOkL (l : List eV) : Prop := ∀ v ∈ l, eOkV v
def eOkH (h : eH) : Prop := ∀ c ∈ h, eOkL c.2
def eOkR (r : Option eV) : Prop := ∀ v, r = some v → eOkV v
theorem eOkV_r (a : Nat) : eOkV (.inr a) := fun x h => by cases h
theorem eOkV_l {x : Int} (h : -2147483648 ≤ x ∧ x ≤ 2147483647) : eOkV (.inl x) := fun y hy => by cases hy; exact h
theorem eOkL_cons {v : eV} {l : List eV} : eOkL (v :: l) ↔ eOkV v ∧ eOkL l := List.forall_mem_cons
theorem eOkL_nil : eOkL [] := fun _ h => absurd h List.not_mem_nil
theorem eOkL_app {a b : List eV} : eOkL (a ++ b) ↔ eOkL a ∧ eOkL b := List.forall_mem_append
theorem eOkL_get {l : List eV} {k : Nat} {v : eV} (h : eOkL l) (hk : l[k]? = some v) : eOkV v := h v (List.mem_of_getElem? hk)
theorem eOkL_set {l : List eV} {k : Nat} {v : eV} (h : eOkL l) (hv : eOkV v) : eOkL (l.set k v) := fun x hx => by
  rcases List.mem_or_eq_of_mem_set hx with h1 | h1
  · exact h x h1
  · rw [h1]; exact hv
theorem eOkH_get {h : eH} {k : Nat} {c : eC} (hh : eOkH h) (hk : h[k]? = some c) : eOkL c.2 := hh c (List.mem_of_getElem? hk)
theorem eOkH_set {h : eH} {k : Nat} {c : eC} (hh : eOkH h) (hc : eOkL c.2) : eOkH (h.set k c) := fun x hx => by
  rcases List.mem_or_eq_of_mem_set hx with h1 | h1
  · exact hh x h1
  · rw [h1]; exact hc
theorem eOkH_push {h : eH} {c : eC} (hh : eOkH h) (hc : eOkL c.2) : eOkH (h ++ [c]) := fun x hx => by
  rcases List.mem_append.mp hx with h1 | h1
  · exact hh x h1
  · rw [List.mem_singleton.mp h1]; exact hc
theorem w32_ok (x : Int) : -2147483648 ≤ w32 x ∧ w32 x ≤ 2147483647 := by
  have h1 := Int32.le_toInt (Int32.ofInt x)
  have h2 := Int32.toInt_lt (Int32.ofInt x)
  unfold w32
  omega
theorem w32_of {x : Int} (h1 : -2147483648 ≤ x) (h2 : x ≤ 2147483647) : w32 x = x := by
  unfold w32
  exact Int32.toInt_ofInt_of_le (by omega) (by omega)
theorem w32_i (x : Int) : Int32.ofInt (w32 x) = Int32.ofInt x := by
  unfold w32
  exact Int32.ofInt_toInt _
theorem i32_ok (x : Int32) : -2147483648 ≤ x.toInt ∧ x.toInt ≤ 2147483647 := by
  have h1 := Int32.le_toInt x
  have h2 := Int32.toInt_lt x
  omega
/-! what a state has beside the made cells -/
def eWd (g : eGt) (h : eH) (H : Heap) : Prop := 8 ≤ h.length ∧ H.size = g.1 + (h.length - 8) ∧ va_P g.2.2.1 vwCl (eWl g h) H
def eStX (g : eGt) (h : eH) (U : State) : Prop := ∀ (k : Nat) (c : eC), 1 ≤ k → k < 8 → h[k]? = some c → c.1 = 100 ∧ g.2.1 k < g.1 ∧ g.1 ≤ U.heap.size ∧ va_X (g.2.1 k) c.2.length (fun j => Int32.ofInt (eVi (c.2.getD j (.inl 0)))) U U.heap
def eStZ (g : eGt) (U : State) : Prop := g.1 ≤ U.heap.size ∧ ∀ (j : Nat) (f : String × String), eSn[j]? = some f → va_Z f.1 f.2 "[I" (.ref (g.2.1 (j + 1))) (eAr g) U U.heap
def eNwOK (U : State) : Prop := ∀ w ∈ eNw, va_Nw w U
def eAOok (U : State) : Prop := va_AO "LampChanger$Lamp" U ∧ va_AO "LampChanger$Beacon" U
def eS (g : eGt) (h : eH) (U : State) : Prop := eStX g h U ∧ eStZ g U ∧ eNwOK U ∧ eAOok U ∧ va_K g.2.2.1 vwCl (eTys g) U
def ePc (g : eGt) (h : eH) (vs : List eV) : Array Value → State → Prop := va_Pc (vs.map (eTr g)) (fun U => eWd g h U.heap ∧ eS g h U)
def eQc (g : eGt) (r : Option eV) (h' : eH) : Array Value → State → Outcome → State → Prop := fun _ st oc t => oc = .returned (r.map (eTr g)) ∧ eWd g h' t.heap ∧ va_F (eAr g) st t
theorem eS.grown {g : eGt} {h h2 : eH} {U : State} (H : eS g h U) (k : eGr h h2) : eS g h2 U :=
  ⟨fun j c h1 h2' hj => H.1 j c h1 h2' (by rw [← k.2.2 j h2']; exact hj), H.2⟩
theorem eNw_warm {s U : State} (hW : s.WarmedH U.vm) (h : eNwOK s) : eNwOK U := by
  intro w hw
  have h1 := h w hw
  have h2 := (List.mem_filter.mp hw).2
  cases w <;> first | exact va_Nw.warmM hW h1 | exact va_Nw.warmF hW h1 | cases h2
theorem eNw_same {s U : State} (hv : s.vm = U.vm) (h : eNwOK s) : eNwOK U := by
  intro w hw
  have h1 := h w hw
  have h2 := (List.mem_filter.mp hw).2
  cases w <;> first | exact va_Nw.same rfl hv h1 | cases h2
/-- another state with warmer tables, the old cells as they were -/
theorem eS.moved {g : eGt} {h : eH} {s U : State} {locs : List Loc} (hvm : s.vm.Alike U.vm) (hN : eNwOK U) (hS : va_S (eAr g) s.heap U.heap locs) (H : eS g h s) : eS g h U := by
  obtain ⟨hX, ⟨hz, hZ⟩, -, hA, hK⟩ := H
  refine ⟨fun k c h1 h2 hk => ?_, ⟨Nat.le_trans hz hS.1, fun j f hj => ?_⟩, hN, ⟨hA.1.moved hvm, hA.2.moved hvm⟩, va_K.moved hvm hK⟩
  · obtain ⟨e1, e2, e3, e4⟩ := hX k c h1 h2 hk
    exact ⟨e1, e2, Nat.le_trans e3 hS.1, (e4.kept (hS.2.1 _ (Nat.lt_of_lt_of_le e2 e3) (Nat.not_le.mpr e2))).moved hvm⟩
  · exact (va_Z.kept (hZ j f hj) (fun a ha hna => hS.2.1 a ha hna)).moved hvm
theorem ePc_blind {g : eGt} {h : eH} {vs : List eV} : FrameBlind (ePc g h vs) := by
  intro a U gf mk q
  obtain ⟨q0, q1, q2⟩ := q
  exact ⟨q0, q1, q2.moved (U := U.calling gf mk a) (Vm.Alike.refl U.vm) (eNw_same (s := U) (U := U.calling gf mk a) rfl q2.2.2.1) (va_S.rf (H0 := U.heap))⟩
/-! locals -/
theorem eTr_cat (g : eGt) (v : eV) : (eTr g v).category = 1 := by
  unfold eTr
  cases v with
  | inl x => rfl
  | inr k => by_cases hk : k = 0 <;> simp [hk, Value.category]
theorem eTr_sum (g : eGt) (st : List eV) : ((st.map (eTr g)).map fun v => v.category).sum = st.length := by
  induction st with
  | nil => rfl
  | cons v t ih => simp only [List.map_cons, List.sum_cons, List.length_cons, eTr_cat, ih]; omega
def eLp (g : eGt) (ls : List eV) : List (Nat × Value) := (List.range ls.length).filterMap fun i => match ls[i]? with
  | some v => if v = .inr 0 then none else some (i, eTr g v)
  | none => none
theorem eLp_mem {g : eGt} {ls : List eV} {q : Nat × Value} : q ∈ eLp g ls ↔ ∃ v, ls[q.1]? = some v ∧ v ≠ .inr 0 ∧ q.2 = eTr g v := by
  unfold eLp
  rw [List.mem_filterMap]
  constructor
  · rintro ⟨i, hi, h⟩
    cases hv : ls[i]? with
    | none => rw [hv] at h; cases h
    | some v =>
      rw [hv] at h
      by_cases h0 : v = .inr 0
      · simp [h0] at h
      · simp only [h0, if_false, Option.some.injEq] at h
        subst h
        exact ⟨v, hv, h0, rfl⟩
  · rintro ⟨v, hv, h0, h2⟩
    refine ⟨q.1, List.mem_range.mpr (List.getElem?_eq_some_iff.mp hv).1, ?_⟩
    rw [hv]
    simp only [h0, if_false, ← h2]
def eLr (g : eGt) (y : Nat) (ls : List eV) (LS : Array Slot) : Prop := ls.length = eN y ∧ lv_has LS (eN y) (eLp g ls)
theorem eLr_at {g : eGt} {y : Nat} {ls : List eV} {LS : Array Slot} (h : eLr g y ls LS) {i : Nat} {v : eV} (hi : ls[i]? = some v) (h0 : v ≠ .inr 0) : LS[i]? = some (.val (eTr g v)) :=
  h.2.2.2 (i, eTr g v) (eLp_mem.mpr ⟨v, hi, h0, rfl⟩)
theorem eLr_set {g : eGt} {y : Nat} {ls : List eV} {LS LS' : Array Slot} (h : eLr g y ls LS) {i : Nat} {v : eV} (hi : i < ls.length)
    (h2 : lv_has LS' (eN y) ((i, eTr g v) :: (eLp g ls).filter (fun q => !(q.1 == i) && !(q.1 + 1 == i && q.2.category == 2)))) : eLr g y (ls.set i v) LS' := by
  refine ⟨by simp [h.1], h2.1, h2.2.1, fun q hq => ?_⟩
  obtain ⟨w, hw, h0, hqe⟩ := eLp_mem.mp hq
  by_cases hqi : q.1 = i
  · rw [hqi, List.getElem?_set_self hi] at hw
    cases hw
    have := h2.2.2 (i, eTr g v) List.mem_cons_self
    rw [hqi, hqe]
    exact this
  · rw [List.getElem?_set_ne (fun z => hqi z.symm)] at hw
    refine h2.2.2 q (List.mem_cons_of_mem _ (List.mem_filter.mpr ⟨eLp_mem.mpr ⟨w, hw, h0, hqe⟩, ?_⟩))
    rw [hqe, eTr_cat]
    simp [hqi]
theorem eLv_sl (g : eGt) (vs : List eV) : lg_sl (vs.map (eTr g)) = vs.map fun v => Slot.val (eTr g v) := by
  induction vs with
  | nil => rfl
  | cons v t ih =>
    have h1 : lg_sl ((v :: t).map (eTr g)) = (if (eTr g v).category = 2 then [.val (eTr g v), .second] else [.val (eTr g v)]) ++ lg_sl (t.map (eTr g)) := by
      simp [lg_sl]
    rw [h1, eTr_cat, ih]
    rfl
theorem eLv_args (g : eGt) : ∀ (vs : List eV) (i k : Nat) (v : eV), vs[k]? = some v → (i + k, eTr g v) ∈ lv_args i (vs.map (eTr g))
  | [], i, k, v, h => by simp at h
  | w :: t, i, 0, v, h => by
    simp only [List.getElem?_cons_zero, Option.some.injEq] at h
    subst h
    exact List.mem_cons_self
  | w :: t, i, k + 1, v, h => by
    rw [List.getElem?_cons_succ] at h
    have := eLv_args g t (i + 1) k v h
    show (i + (k + 1), eTr g v) ∈ (i, eTr g w) :: lv_args (if (eTr g w).category = 2 then i + 2 else i + 1) (t.map (eTr g))
    rw [eTr_cat, show i + (k + 1) = i + 1 + k by omega]
    exact List.mem_cons_of_mem _ this
theorem eLr_entry {g : eGt} {y : Nat} {vs : List eV} (h : vs.length ≤ eN y) : eLr g y (eLoc y vs) ((lg_sl (vs.map (eTr g)) ++ List.replicate (eN y - (lg_sl (vs.map (eTr g))).length) Slot.unset).toArray) := by
  have hl : (lg_sl (vs.map (eTr g))).length = vs.length := by rw [eLv_sl]; simp
  have h1 := lv_entry (vs.map (eTr g)) (n := eN y) (by rw [hl]; exact h)
  refine ⟨by simp [eLoc]; omega, h1.1, h1.2.1, fun q hq => ?_⟩
  obtain ⟨v, hv, h0, hqe⟩ := eLp_mem.mp hq
  unfold eLoc at hv
  by_cases hk : q.1 < vs.length
  · rw [List.getElem?_append_left hk] at hv
    have := eLv_args g vs 0 q.1 v hv
    rw [Nat.zero_add, ← hqe] at this
    exact h1.2.2 q this
  · rw [List.getElem?_append_right (by omega), List.getElem?_replicate] at hv
    split at hv
    · cases hv; exact absurd rfl h0
    · cases hv
end
section
/-! what the evaluator answers, the machine does: the form, and the instructions that touch no cell -/
def eRet (g : eGt) (y pc : Nat) (r : Option eV) (stv : List Value) : Prop :=
  (r = none ∧ stv = [] ∧ decode (eB y) pc = .ok (.return_, 1) ∧ eT y = none) ∨
  (∃ x : Int, r = some (.inl x) ∧ stv = [.int (Int32.ofInt x)] ∧ decode (eB y) pc = .ok (.ireturn, 1) ∧ ∃ ty, eT y = some ty ∧ narrow ty (.int (Int32.ofInt x)) = .int (Int32.ofInt x)) ∨
  (∃ a : Nat, r = some (.inr a) ∧ a ≠ 0 ∧ stv = [.ref (eAd g a)] ∧ decode (eB y) pc = .ok (.areturn, 1) ∧ ∃ n, eT y = some (.object n))
def eCx (g : eGt) (y : Nat) (h : eH) (p : Program) (R : Room) (s : State) (m : MethodId) (args : Array Value) (meth : Method) (c : Code) : Prop :=
  p.tables.exec = Jvm.exec ∧ c.code = eB y ∧ c.maxLocals = eN y ∧ s.vm.findClass (eR (eO y)) = some m.cls ∧ (∀ w ∈ eWs, w.before args s = true) ∧ (eI y = true → meth.name = "<init>") ∧ R.frames = eF y ∧ R.locals = eL y ∧ eS g h s
def eConc (y pc : Nat) (ls st : List eV) (h : eH) (r : Option eV) (h' : eH) : Prop :=
  eOkL ls → eOkL st → eOkH h → 8 ≤ h.length → eOkR r ∧ eOkH h' ∧ eGr h h' ∧
  ∀ (g : eGt) (p : Program) (l : Launch) (e : Env) (R : Room) (s : State) (m : MethodId) (args : Array Value) (below : List Frame) (meth : Method) (c : Code),
    eCx g y h p R s m args meth c → ∀ (H : Heap) (locs : List Loc) (cells slots : Nat) (LS : Array Slot) (Qt : State → Prop), eWd g h H → va_S (eAr g) s.heap H locs → eLr g y ls LS →
      cells + (h'.length - h.length) ≤ R.cells → slots + (eSz h' - eSz h) ≤ R.slots →
      (∀ (H' : Heap) (locs' : List Loc) (LS' : Array Slot) (pc' : Nat) (stv : List Value), eWd g h' H' → va_S (eAr g) s.heap H' locs' → eRet g y pc' r stv →
        W p l e R s m args below meth c H' locs' (cells + (h'.length - h.length)) (slots + (eSz h' - eSz h)) Qt (F0 m pc' LS' stv)) →
      W p l e R s m args below meth c H locs cells slots Qt (F0 m pc LS (st.map (eTr g)))
def eSnd (f : eK) : Prop := ∀ (y pc : Nat) (ls st : List eV) (h : eH) (r : Option eV) (h' : eH), f y pc ls st h = some (r, h') → eConc y pc ls st h r h'
def eStp (y pc : Nat) (ls st : List eV) (h : eH) (pc2 : Nat) (ls2 st2 : List eV) (h2 : eH) : Prop :=
  eOkL ls → eOkL st → eOkH h → 8 ≤ h.length → (eOkL ls2 ∧ eOkL st2 ∧ eOkH h2 ∧ eGr h h2) ∧
  ∀ (g : eGt) (p : Program) (l : Launch) (e : Env) (R : Room) (s : State) (m : MethodId) (args : Array Value) (below : List Frame) (meth : Method) (c : Code),
    eCx g y h p R s m args meth c → ∀ (H : Heap) (locs : List Loc) (cells slots : Nat) (LS : Array Slot) (Qt : State → Prop), eWd g h H → va_S (eAr g) s.heap H locs → eLr g y ls LS →
      cells + (h2.length - h.length) ≤ R.cells → slots + (eSz h2 - eSz h) ≤ R.slots →
      (∀ (H2 : Heap) (locs2 : List Loc) (LS2 : Array Slot), eWd g h2 H2 → va_S (eAr g) s.heap H2 locs2 → eLr g y ls2 LS2 →
        W p l e R s m args below meth c H2 locs2 (cells + (h2.length - h.length)) (slots + (eSz h2 - eSz h)) Qt (F0 m pc2 LS2 (st2.map (eTr g)))) →
      W p l e R s m args below meth c H locs cells slots Qt (F0 m pc LS (st.map (eTr g)))
theorem eStep {y pc pc2 : Nat} {ls ls2 st st2 : List eV} {h h2 h' : eH} {r : Option eV} (S : eStp y pc ls st h pc2 ls2 st2 h2) (IH : eConc y pc2 ls2 st2 h2 r h') : eConc y pc ls st h r h' := by
  intro o1 o2 o3 o4
  obtain ⟨⟨p1, p2, p3, p4⟩, S⟩ := S o1 o2 o3 o4
  obtain ⟨q1, q2, q3, IH⟩ := IH p1 p2 p3 (Nat.le_trans o4 p4.1)
  refine ⟨q1, q2, p4.trans q3, ?_⟩
  intro g p l e R s m args below meth c C H locs cells slots LS Qt hW hS hL hc hs hend
  have a1 := p4.1
  have a2 := p4.2.1
  have a3 := q3.1
  have a4 := q3.2.1
  refine S g p l e R s m args below meth c C H locs cells slots LS Qt hW hS hL (by omega) (by omega) ?_
  intro H2 locs2 LS2 hW2 hS2 hL2
  obtain ⟨c1, c2, c3, c4, c5, c6, c7, c8, c9⟩ := C
  refine IH g p l e R s m args below meth c ⟨c1, c2, c3, c4, c5, c6, c7, c8, c9.grown p4⟩ H2 locs2 _ _ LS2 Qt hW2 hS2 hL2 (by omega) (by omega) ?_
  intro H' locs' LS' pc' stv k1 k2 k3
  have := hend H' locs' LS' pc' stv k1 k2 k3
  rw [show cells + (h2.length - h.length) + (h'.length - h2.length) = cells + (h'.length - h.length) by omega, show slots + (eSz h2 - eSz h) + (eSz h' - eSz h2) = slots + (eSz h' - eSz h) by omega]
  exact this
theorem eStp0 {y pc pc2 : Nat} {ls ls2 st st2 : List eV} {h : eH} (hok : eOkL ls → eOkL st → eOkH h → eOkL ls2 ∧ eOkL st2)
    (hW : ∀ (g : eGt) (p : Program) (l : Launch) (e : Env) (R : Room) (s : State) (m : MethodId) (args : Array Value) (below : List Frame) (meth : Method) (c : Code), eOkL ls → eOkL st → eOkH h →
      eCx g y h p R s m args meth c → ∀ (H : Heap) (locs : List Loc) (cells slots : Nat) (LS : Array Slot) (Qt : State → Prop), eWd g h H → va_S (eAr g) s.heap H locs → eLr g y ls LS →
      (∀ LS2 : Array Slot, eLr g y ls2 LS2 → W p l e R s m args below meth c H locs cells slots Qt (F0 m pc2 LS2 (st2.map (eTr g)))) →
      W p l e R s m args below meth c H locs cells slots Qt (F0 m pc LS (st.map (eTr g)))) : eStp y pc ls st h pc2 ls2 st2 h := by
  intro o1 o2 o3 o4
  refine ⟨⟨(hok o1 o2 o3).1, (hok o1 o2 o3).2, o3, eGr.refl⟩, ?_⟩
  intro g p l e R s m args below meth c C H locs cells slots LS Qt hw hS hL hc hs kk
  refine hW g p l e R s m args below meth c o1 o2 o3 C H locs cells slots LS Qt hw hS hL ?_
  intro LS2 hL2
  have := kk H locs LS2 hw hS hL2
  simpa only [Nat.sub_self, Nat.add_zero] using this
section ESTEPS
variable {f : eK} {y pc pc2 k : Nat} {ls st : List eV} {h h' : eH} {r : Option eV}
theorem sAld (hf : eSnd f) (hr : xAld f y pc2 k ls st h = some (r, h')) (hd : (decode (eB y) pc = .ok (.aload k, 2) ∧ pc2 = pc + 2) ∨ ∃ q : Fin 4, (q : Nat) = k ∧ decode (eB y) pc = .ok (.aload_n q, 1) ∧ pc2 = pc + 1) : eConc y pc ls st h r h' := by
  unfold xAld at hr
  split at hr
  · next a ha =>
    split at hr
    · cases hr
    · next h0 =>
      refine eStep (eStp0 (fun o1 o2 _ => ⟨o1, eOkL_cons.mpr ⟨eOkV_r a, o2⟩⟩) ?_) (hf _ _ _ _ _ _ _ hr)
      intro g p l e R s m args below meth c _ _ _ C H locs cells slots LS Qt hW hS hL kk
      obtain ⟨hx, hb, -⟩ := C
      have hat := eLr_at hL ha (fun z => h0 (by cases z; rfl))
      have k2 := kk LS hL
      have e1 : eTr g (.inr a) = .ref (eAd g a) := by simp [eTr, h0]
      rw [e1] at hat
      rw [List.map_cons, e1] at k2
      rcases hd with ⟨hd, rfl⟩ | ⟨q, hq, hd, rfl⟩
      · exact lv_aload hx hb hd hat k2
      · exact lv_aload_n hx hb hd hq hat k2
  · cases hr
theorem sIld (hf : eSnd f) (hr : xIld f y pc2 k ls st h = some (r, h')) (hd : (decode (eB y) pc = .ok (.iload k, 2) ∧ pc2 = pc + 2) ∨ ∃ q : Fin 4, (q : Nat) = k ∧ decode (eB y) pc = .ok (.iload_n q, 1) ∧ pc2 = pc + 1) : eConc y pc ls st h r h' := by
  unfold xIld at hr
  split at hr
  · next x ha =>
    refine eStep (eStp0 (fun o1 o2 _ => ⟨o1, eOkL_cons.mpr ⟨eOkL_get o1 ha, o2⟩⟩) ?_) (hf _ _ _ _ _ _ _ hr)
    intro g p l e R s m args below meth c _ _ _ C H locs cells slots LS Qt hW hS hL kk
    obtain ⟨hx, hb, -⟩ := C
    have hat := eLr_at hL ha (fun z => by cases z)
    have k2 := kk LS hL
    rcases hd with ⟨hd, rfl⟩ | ⟨q, hq, hd, rfl⟩
    · exact lv_iload hx hb hd hat k2
    · exact lv_iload_n hx hb hd hq hat k2
  · cases hr
theorem sAst (hf : eSnd f) (hr : xAst f y pc2 k ls st h = some (r, h')) (hd : (decode (eB y) pc = .ok (.astore k, 2) ∧ pc2 = pc + 2) ∨ ∃ q : Fin 4, (q : Nat) = k ∧ decode (eB y) pc = .ok (.astore_n q, 1) ∧ pc2 = pc + 1) : eConc y pc ls st h r h' := by
  unfold xAst at hr
  split at hr
  · next a st =>
    split at hr
    · cases hr
    · next h0 =>
      split at hr
      · next hk =>
        refine eStep (eStp0 (fun o1 o2 _ => ⟨eOkL_set o1 (eOkV_r a), (eOkL_cons.mp o2).2⟩) ?_) (hf _ _ _ _ _ _ _ hr)
        intro g p l e R s m args below meth c _ _ _ C H locs cells slots LS Qt hW hS hL kk
        obtain ⟨hx, hb, -⟩ := C
        have e1 : eTr g (.inr a) = .ref (eAd g a) := by simp [eTr, h0]
        rw [List.map_cons, e1]
        rcases hd with ⟨hd, rfl⟩ | ⟨q, hq, hd, rfl⟩
        · refine lv_astore hx hb hd hL.2 (by rw [← hL.1]; exact hk) rfl fun LS2 h2 => kk LS2 (eLr_set hL hk ?_)
          rw [e1]; exact h2
        · refine lv_astore_n hx hb hd hq hL.2 (by rw [← hL.1]; exact hk) rfl fun LS2 h2 => kk LS2 (eLr_set hL hk ?_)
          rw [e1]; exact h2
      · cases hr
  · cases hr
theorem sIst (hf : eSnd f) (hr : xIst f y pc2 k ls st h = some (r, h')) (hd : (decode (eB y) pc = .ok (.istore k, 2) ∧ pc2 = pc + 2) ∨ ∃ q : Fin 4, (q : Nat) = k ∧ decode (eB y) pc = .ok (.istore_n q, 1) ∧ pc2 = pc + 1) : eConc y pc ls st h r h' := by
  unfold xIst at hr
  split at hr
  · next x st =>
    split at hr
    · next hk =>
      refine eStep (eStp0 (fun o1 o2 _ => ⟨eOkL_set o1 (eOkL_cons.mp o2).1, (eOkL_cons.mp o2).2⟩) ?_) (hf _ _ _ _ _ _ _ hr)
      intro g p l e R s m args below meth c _ _ _ C H locs cells slots LS Qt hW hS hL kk
      obtain ⟨hx, hb, -⟩ := C
      rcases hd with ⟨hd, rfl⟩ | ⟨q, hq, hd, rfl⟩
      · exact lv_istore hx hb hd hL.2 (by rw [← hL.1]; exact hk) rfl fun LS2 h2 => kk LS2 (eLr_set hL hk h2)
      · exact lv_istore_n hx hb hd hq hL.2 (by rw [← hL.1]; exact hk) rfl fun LS2 h2 => kk LS2 (eLr_set hL hk h2)
    · cases hr
  · cases hr
theorem sConst {n : Int} {len : Nat} (hf : eSnd f) (hr : xPush f y (pc + len) (.inl n) ls st h = some (r, h')) (hw : w32 n = n)
    (hW : ∀ (g : eGt) (p : Program) (l : Launch) (e : Env) (R : Room) (s : State) (m : MethodId) (args : Array Value) (below : List Frame) (meth : Method) (c : Code) (H : Heap) (locs : List Loc) (cells slots : Nat) (LS : Array Slot) (Qt : State → Prop) (rest : List Value),
      eCx g y h p R s m args meth c → W p l e R s m args below meth c H locs cells slots Qt (F0 m (pc + len) LS (.int (Int32.ofInt n) :: rest)) → W p l e R s m args below meth c H locs cells slots Qt (F0 m pc LS rest)) : eConc y pc ls st h r h' := by
  unfold xPush at hr
  refine eStep (eStp0 (fun o1 o2 _ => ⟨o1, eOkL_cons.mpr ⟨eOkV_l (by rw [← hw]; exact w32_ok n), o2⟩⟩) ?_) (hf _ _ _ _ _ _ _ hr)
  intro g p l e R s m args below meth c _ _ _ C H locs cells slots LS Qt hW' hS hL kk
  exact hW g p l e R s m args below meth c H locs cells slots LS Qt _ C (kk LS hL)
theorem sBin {op : Int → Int → Int} (hf : eSnd f) (hr : xBin f y (pc + 1) op ls st h = some (r, h')) (hop : ∀ a b, -2147483648 ≤ op a b ∧ op a b ≤ 2147483647)
    (hW : ∀ (g : eGt) (p : Program) (l : Launch) (e : Env) (R : Room) (s : State) (m : MethodId) (args : Array Value) (below : List Frame) (meth : Method) (c : Code) (H : Heap) (locs : List Loc) (cells slots : Nat) (LS : Array Slot) (Qt : State → Prop) (rest : List Value) (a b : Int),
      eCx g y h p R s m args meth c → -2147483648 ≤ a ∧ a ≤ 2147483647 → -2147483648 ≤ b ∧ b ≤ 2147483647 → W p l e R s m args below meth c H locs cells slots Qt (F0 m (pc + 1) LS (.int (Int32.ofInt (op a b)) :: rest)) → W p l e R s m args below meth c H locs cells slots Qt (F0 m pc LS (.int (Int32.ofInt b) :: .int (Int32.ofInt a) :: rest))) : eConc y pc ls st h r h' := by
  unfold xBin at hr
  split at hr
  · next b a st =>
    refine eStep (eStp0 (fun o1 o2 _ => ⟨o1, eOkL_cons.mpr ⟨eOkV_l (hop a b), (eOkL_cons.mp (eOkL_cons.mp o2).2).2⟩⟩) ?_) (hf _ _ _ _ _ _ _ hr)
    intro g p l e R s m args below meth c _ o2 _ C H locs cells slots LS Qt hW' hS hL kk
    exact hW g p l e R s m args below meth c H locs cells slots LS Qt _ a b C ((eOkL_cons.mp (eOkL_cons.mp o2).2).1 a rfl) ((eOkL_cons.mp o2).1 b rfl) (kk LS hL)
  · cases hr
theorem sBin0 {op : Int → Int → Int} (hf : eSnd f) (hr : xBin0 f y (pc + 1) op ls st h = some (r, h')) (hop : ∀ a b, -2147483648 ≤ op a b ∧ op a b ≤ 2147483647)
    (hW : ∀ (g : eGt) (p : Program) (l : Launch) (e : Env) (R : Room) (s : State) (m : MethodId) (args : Array Value) (below : List Frame) (meth : Method) (c : Code) (H : Heap) (locs : List Loc) (cells slots : Nat) (LS : Array Slot) (Qt : State → Prop) (rest : List Value) (a b : Int),
      eCx g y h p R s m args meth c → -2147483648 ≤ a ∧ a ≤ 2147483647 → -2147483648 ≤ b ∧ b ≤ 2147483647 → b ≠ 0 → W p l e R s m args below meth c H locs cells slots Qt (F0 m (pc + 1) LS (.int (Int32.ofInt (op a b)) :: rest)) → W p l e R s m args below meth c H locs cells slots Qt (F0 m pc LS (.int (Int32.ofInt b) :: .int (Int32.ofInt a) :: rest))) : eConc y pc ls st h r h' := by
  unfold xBin0 at hr
  split at hr
  · next b a st =>
    split at hr
    · cases hr
    · next h0 =>
      refine eStep (eStp0 (fun o1 o2 _ => ⟨o1, eOkL_cons.mpr ⟨eOkV_l (hop a b), (eOkL_cons.mp (eOkL_cons.mp o2).2).2⟩⟩) ?_) (hf _ _ _ _ _ _ _ hr)
      intro g p l e R s m args below meth c _ o2 _ C H locs cells slots LS Qt hW' hS hL kk
      exact hW g p l e R s m args below meth c H locs cells slots LS Qt _ a b C ((eOkL_cons.mp (eOkL_cons.mp o2).2).1 a rfl) ((eOkL_cons.mp o2).1 b rfl) h0 (kk LS hL)
  · cases hr
theorem i32_lt {a b : Int} (ha : -2147483648 ≤ a ∧ a ≤ 2147483647) (hb : -2147483648 ≤ b ∧ b ≤ 2147483647) : Int32.ofInt a < Int32.ofInt b ↔ a < b := by
  rw [Int32.lt_iff_toInt_lt]
  show w32 a < w32 b ↔ _
  rw [w32_of ha.1 ha.2, w32_of hb.1 hb.2]
theorem i32_le {a b : Int} (ha : -2147483648 ≤ a ∧ a ≤ 2147483647) (hb : -2147483648 ≤ b ∧ b ≤ 2147483647) : Int32.ofInt a ≤ Int32.ofInt b ↔ a ≤ b := by
  rw [Int32.le_iff_toInt_le]
  show w32 a ≤ w32 b ↔ _
  rw [w32_of ha.1 ha.2, w32_of hb.1 hb.2]
theorem i32_eq {a b : Int} (ha : -2147483648 ≤ a ∧ a ≤ 2147483647) (hb : -2147483648 ≤ b ∧ b ≤ 2147483647) : Int32.ofInt a = Int32.ofInt b ↔ a = b := by
  constructor
  · intro q
    have h1 : w32 a = w32 b := by unfold w32; rw [q]
    rwa [w32_of ha.1 ha.2, w32_of hb.1 hb.2] at h1
  · rintro rfl; rfl
theorem sJ {ls2 st2 : List eV} {off : Int} (hf : eSnd f) (hr : eJ f y pc off ls2 st2 h = some (r, h')) (hok : eOkL ls → eOkL st → eOkL ls2 ∧ eOkL st2)
    (hW : ∀ (tgt : Nat), (pc : Int) + off = (tgt : Int) → ∀ (g : eGt) (p : Program) (l : Launch) (e : Env) (R : Room) (s : State) (m : MethodId) (args : Array Value) (below : List Frame) (meth : Method) (c : Code), eOkL ls → eOkL st →
      eCx g y h p R s m args meth c → ∀ (H : Heap) (locs : List Loc) (cells slots : Nat) (LS : Array Slot) (Qt : State → Prop), eLr g y ls LS →
      (∀ LS2 : Array Slot, eLr g y ls2 LS2 → W p l e R s m args below meth c H locs cells slots Qt (F0 m tgt LS2 (st2.map (eTr g)))) →
      W p l e R s m args below meth c H locs cells slots Qt (F0 m pc LS (st.map (eTr g)))) : eConc y pc ls st h r h' := by
  unfold eJ at hr
  split at hr
  · next h0 =>
    refine eStep (eStp0 (fun o1 o2 _ => hok o1 o2) ?_) (hf _ _ _ _ _ _ _ hr)
    intro g p l e R s m args below meth c o1 o2 _ C H locs cells slots LS Qt _ _ hL kk
    exact hW _ (by omega) g p l e R s m args below meth c o1 o2 C H locs cells slots LS Qt hL kk
  · cases hr
theorem ok0 : -2147483648 ≤ (0 : Int) ∧ (0 : Int) ≤ 2147483647 := by decide
theorem sIf {cnd : Jvm.ClassFile.Cond} {off : Int} (hf : eSnd f) (hr : xIf f y pc cnd off ls st h = some (r, h')) (hd : decode (eB y) pc = .ok (.ifCond cnd off, 3)) : eConc y pc ls st h r h' := by
  unfold xIf at hr
  split at hr
  · next a st =>
    split at hr
    · next h0 =>
      have ht : (pc : Int) + off = (((pc : Int) + off).toNat : Int) := by omega
      have hW : ∀ (g : eGt) (p : Program) (l : Launch) (e : Env) (R : Room) (s : State) (m : MethodId) (args : Array Value) (below : List Frame) (meth : Method) (c : Code), eOkL (.inl a :: st) → eCx g y h p R s m args meth c → ∀ (H : Heap) (locs : List Loc) (cells slots : Nat) (LS : Array Slot) (Qt : State → Prop),
          (eCmp cnd a 0 = true → W p l e R s m args below meth c H locs cells slots Qt (F0 m ((pc : Int) + off).toNat LS (st.map (eTr g)))) → (eCmp cnd a 0 = false → W p l e R s m args below meth c H locs cells slots Qt (F0 m (pc + 3) LS (st.map (eTr g)))) →
          W p l e R s m args below meth c H locs cells slots Qt (F0 m pc LS ((List.cons (.inl a) st).map (eTr g))) := by
        intro g p l e R s m args below meth c o2 C H locs cells slots LS Qt kt kf
        obtain ⟨hx, hb, -⟩ := C
        have oa := (eOkL_cons.mp o2).1 a rfl
        cases cnd <;> simp only [eCmp, decide_eq_true_eq, decide_eq_false_iff_not] at kt kf
        · exact lv_if_eq hx hb hd ht (fun z => kt ((i32_eq oa ok0).mp z)) (fun z => kf (fun q => z ((i32_eq oa ok0).mpr q)))
        · exact lv_if_ne hx hb hd ht (fun z => kt (fun q => z ((i32_eq oa ok0).mpr q))) (fun z => kf (fun q => q ((i32_eq oa ok0).mp z)))
        · exact lv_if_lt hx hb hd ht (fun z => kt ((i32_lt oa ok0).mp z)) (fun z => kf (fun q => z ((i32_lt oa ok0).mpr q)))
        · exact lv_if_ge hx hb hd ht (fun z => kt ((i32_le ok0 oa).mp z)) (fun z => kf (fun q => z ((i32_le ok0 oa).mpr q)))
        · exact lv_if_gt hx hb hd ht (fun z => kt ((i32_lt ok0 oa).mp z)) (fun z => kf (fun q => z ((i32_lt ok0 oa).mpr q)))
        · exact lv_if_le hx hb hd ht (fun z => kt ((i32_le oa ok0).mp z)) (fun z => kf (fun q => z ((i32_le oa ok0).mpr q)))
      split at hr
      · next hc =>
        refine eStep (eStp0 (fun o1 o2 _ => ⟨o1, (eOkL_cons.mp o2).2⟩) ?_) (hf _ _ _ _ _ _ _ hr)
        intro g p l e R s m args below meth c _ o2 _ C H locs cells slots LS Qt _ _ hL kk
        exact hW g p l e R s m args below meth c o2 C H locs cells slots LS Qt (fun _ => kk LS hL) (fun z => absurd (hc.symm.trans z) (by decide))
      · next hc =>
        refine eStep (eStp0 (fun o1 o2 _ => ⟨o1, (eOkL_cons.mp o2).2⟩) ?_) (hf _ _ _ _ _ _ _ hr)
        intro g p l e R s m args below meth c _ o2 _ C H locs cells slots LS Qt _ _ hL kk
        exact hW g p l e R s m args below meth c o2 C H locs cells slots LS Qt (fun z => absurd z hc) (fun _ => kk LS hL)
    · cases hr
  · cases hr
theorem sIcmp {cnd : Jvm.ClassFile.Cond} {off : Int} (hf : eSnd f) (hr : xIcmp f y pc cnd off ls st h = some (r, h')) (hd : decode (eB y) pc = .ok (.if_icmp cnd off, 3)) : eConc y pc ls st h r h' := by
  unfold xIcmp at hr
  split at hr
  · next b a st =>
    split at hr
    · next h0 =>
      have ht : (pc : Int) + off = (((pc : Int) + off).toNat : Int) := by omega
      have hW : ∀ (g : eGt) (p : Program) (l : Launch) (e : Env) (R : Room) (s : State) (m : MethodId) (args : Array Value) (below : List Frame) (meth : Method) (c : Code), eOkL (.inl b :: .inl a :: st) → eCx g y h p R s m args meth c → ∀ (H : Heap) (locs : List Loc) (cells slots : Nat) (LS : Array Slot) (Qt : State → Prop),
          (eCmp cnd a b = true → W p l e R s m args below meth c H locs cells slots Qt (F0 m ((pc : Int) + off).toNat LS (st.map (eTr g)))) → (eCmp cnd a b = false → W p l e R s m args below meth c H locs cells slots Qt (F0 m (pc + 3) LS (st.map (eTr g)))) →
          W p l e R s m args below meth c H locs cells slots Qt (F0 m pc LS ((List.cons (.inl b) (.inl a :: st)).map (eTr g))) := by
        intro g p l e R s m args below meth c o2 C H locs cells slots LS Qt kt kf
        obtain ⟨hx, hb, -⟩ := C
        have oa := (eOkL_cons.mp (eOkL_cons.mp o2).2).1 a rfl
        have ob := (eOkL_cons.mp o2).1 b rfl
        cases cnd <;> simp only [eCmp, decide_eq_true_eq, decide_eq_false_iff_not] at kt kf
        · exact lv_icmp_eq hx hb hd ht (fun z => kt ((i32_eq oa ob).mp z)) (fun z => kf (fun q => z ((i32_eq oa ob).mpr q)))
        · exact lv_icmp_ne hx hb hd ht (fun z => kt (fun q => z ((i32_eq oa ob).mpr q))) (fun z => kf (fun q => q ((i32_eq oa ob).mp z)))
        · exact lv_icmp_lt hx hb hd ht (fun z => kt ((i32_lt oa ob).mp z)) (fun z => kf (fun q => z ((i32_lt oa ob).mpr q)))
        · exact lv_icmp_ge hx hb hd ht (fun z => kt ((i32_le ob oa).mp z)) (fun z => kf (fun q => z ((i32_le ob oa).mpr q)))
        · exact lv_icmp_gt hx hb hd ht (fun z => kt ((i32_lt ob oa).mp z)) (fun z => kf (fun q => z ((i32_lt ob oa).mpr q)))
        · exact lv_icmp_le hx hb hd ht (fun z => kt ((i32_le oa ob).mp z)) (fun z => kf (fun q => z ((i32_le oa ob).mpr q)))
      split at hr
      · next hc =>
        refine eStep (eStp0 (fun o1 o2 _ => ⟨o1, (eOkL_cons.mp (eOkL_cons.mp o2).2).2⟩) ?_) (hf _ _ _ _ _ _ _ hr)
        intro g p l e R s m args below meth c _ o2 _ C H locs cells slots LS Qt _ _ hL kk
        exact hW g p l e R s m args below meth c o2 C H locs cells slots LS Qt (fun _ => kk LS hL) (fun z => absurd (hc.symm.trans z) (by decide))
      · next hc =>
        refine eStep (eStp0 (fun o1 o2 _ => ⟨o1, (eOkL_cons.mp (eOkL_cons.mp o2).2).2⟩) ?_) (hf _ _ _ _ _ _ _ hr)
        intro g p l e R s m args below meth c _ o2 _ C H locs cells slots LS Qt _ _ hL kk
        exact hW g p l e R s m args below meth c o2 C H locs cells slots LS Qt (fun z => absurd z hc) (fun _ => kk LS hL)
    · cases hr
  · cases hr
theorem sNul {jump : Bool} {off : Int} (hf : eSnd f) (hr : xNul f y pc jump off ls st h = some (r, h')) (hd : decode (eB y) pc = .ok (if jump then .ifnonnull off else .ifnull off, 3)) : eConc y pc ls st h r h' := by
  unfold xNul at hr
  split at hr
  · next a st =>
    split at hr
    · cases hr
    · next h0 =>
      have e1 : ∀ g : eGt, eTr g (.inr a) = .ref (eAd g a) := fun g => by simp [eTr, h0]
      cases jump with
      | true =>
        simp only [if_true] at hr hd
        refine sJ hf hr (fun o1 o2 => ⟨o1, (eOkL_cons.mp o2).2⟩) ?_
        intro tgt ht g p l e R s m args below meth c _ o2 C H locs cells slots LS Qt hL kk
        obtain ⟨hx, hb, -⟩ := C
        rw [List.map_cons, e1]
        exact lv_ifnonnull hx hb hd ht (kk LS hL)
      | false =>
        simp only [Bool.false_eq_true, if_false] at hr hd
        refine eStep (eStp0 (fun o1 o2 _ => ⟨o1, (eOkL_cons.mp o2).2⟩) ?_) (hf _ _ _ _ _ _ _ hr)
        intro g p l e R s m args below meth c _ o2 _ C H locs cells slots LS Qt _ _ hL kk
        obtain ⟨hx, hb, -⟩ := C
        rw [List.map_cons, e1]
        exact lv_ifnull hx hb hd (kk LS hL)
  · cases hr
theorem sTable {dflt lo hi : Int} {offs : Array Int} {len : Nat} (hf : eSnd f) (hd : decode (eB y) pc = .ok (.tableswitch dflt lo hi offs, len))
    (hr : (match st with
    | .inl x :: st => if x < lo ∨ hi < x then eJ f y pc dflt ls st h else (match offs[(x - lo).toNat]? with
      | some off => eJ f y pc off ls st h
      | none => none)
    | _ => none) = some (r, h')) : eConc y pc ls st h r h' := by
  split at hr
  · next x st =>
    split at hr
    · next hc =>
      refine sJ hf hr (fun o1 o2 => ⟨o1, (eOkL_cons.mp o2).2⟩) ?_
      intro tgt ht g p l e R s m args below meth c _ o2 C H locs cells slots LS Qt hL kk
      obtain ⟨hx, hb, -⟩ := C
      have oa := (eOkL_cons.mp o2).1 x rfl
      have e1 : (Int32.ofInt x).toInt = x := w32_of oa.1 oa.2
      exact lv_tableOut hx hb hd (by rw [e1]; exact hc) ht (kk LS hL)
    · next hc =>
      split at hr
      · next off ho =>
        refine sJ hf hr (fun o1 o2 => ⟨o1, (eOkL_cons.mp o2).2⟩) ?_
        intro tgt ht g p l e R s m args below meth c _ o2 C H locs cells slots LS Qt hL kk
        obtain ⟨hx, hb, -⟩ := C
        have oa := (eOkL_cons.mp o2).1 x rfl
        have e1 : (Int32.ofInt x).toInt = x := w32_of oa.1 oa.2
        exact lv_tableIn hx hb hd (by rw [e1]; exact fun z => hc (Or.inl z)) (by rw [e1]; exact fun z => hc (Or.inr z)) (by rw [e1]; exact ho) ht (kk LS hL)
      · cases hr
  · cases hr
theorem sLookup {dflt : Int} {ps : Array (Int × Int)} {len : Nat} (hf : eSnd f) (hd : decode (eB y) pc = .ok (.lookupswitch dflt ps, len))
    (hp : (ps.toList.zip (ps.toList.drop 1)).all (fun (a, next) => a.1 < next.1) = true)
    (hr : (match st with
    | .inl x :: st => eJ f y pc (Op.lookupswitch.offset ps.toList dflt x) ls st h
    | _ => none) = some (r, h')) : eConc y pc ls st h r h' := by
  split at hr
  · next x st =>
    refine sJ hf hr (fun o1 o2 => ⟨o1, (eOkL_cons.mp o2).2⟩) ?_
    intro tgt ht g p l e R s m args below meth c _ o2 C H locs cells slots LS Qt hL kk
    obtain ⟨hx, hb, -⟩ := C
    have oa := (eOkL_cons.mp o2).1 x rfl
    have e1 : (Int32.ofInt x).toInt = x := w32_of oa.1 oa.2
    exact lv_lookup hx hb hd hp (by rw [e1]) ht (kk LS hL)
  · cases hr
theorem sIinc {n : Int} (hf : eSnd f) (hd : decode (eB y) pc = .ok (.iinc k n, 3)) (hk : k < ls.length)
    (hr : (match ls[k]? with
    | some (.inl x) => f y (pc + 3) (ls.set k (.inl (w32 (x + n)))) st h
    | _ => none) = some (r, h')) : eConc y pc ls st h r h' := by
  split at hr
  · next x hx0 =>
    refine eStep (eStp0 (fun o1 o2 _ => ⟨eOkL_set o1 (eOkV_l (w32_ok _)), o2⟩) ?_) (hf _ _ _ _ _ _ _ hr)
    intro g p l e R s m args below meth c _ o2 _ C H locs cells slots LS Qt _ _ hL kk
    obtain ⟨hx, hb, -⟩ := C
    obtain ⟨j, hj⟩ := List.getElem?_of_mem (eLp_mem (g := g) (ls := ls) (q := (k, eTr g (.inl x))) |>.mpr ⟨.inl x, hx0, (fun z => by cases z), rfl⟩)
    refine lv_iinc (k := j) (x := Int32.ofInt x) (v := Int32.ofInt (w32 (x + n))) hx hb hd hL.2 hj ?_ (by rw [← hL.1]; exact hk) rfl fun LS2 h2 => kk LS2 (eLr_set hL hk h2)
    rw [w32_i, Int32.ofInt_add]
  · cases hr
theorem sDup (hf : eSnd f) (hd : decode (eB y) pc = .ok (.dup, 1)) (hr : (match st with
    | a :: st => f y (pc + 1) ls (a :: a :: st) h
    | _ => none) = some (r, h')) : eConc y pc ls st h r h' := by
  split at hr
  · next a st =>
    refine eStep (eStp0 (fun o1 o2 _ => ⟨o1, eOkL_cons.mpr ⟨(eOkL_cons.mp o2).1, o2⟩⟩) ?_) (hf _ _ _ _ _ _ _ hr)
    intro g p l e R s m args below meth c _ o2 _ C H locs cells slots LS Qt _ _ hL kk
    obtain ⟨hx, hb, -⟩ := C
    exact lv_dup hx hb hd (eTr_cat g a) (kk LS hL)
  · cases hr
theorem sPop (hf : eSnd f) (hd : decode (eB y) pc = .ok (.pop, 1)) (hr : (match st with
    | _ :: st => f y (pc + 1) ls st h
    | _ => none) = some (r, h')) : eConc y pc ls st h r h' := by
  split at hr
  · next a st =>
    refine eStep (eStp0 (fun o1 o2 _ => ⟨o1, (eOkL_cons.mp o2).2⟩) ?_) (hf _ _ _ _ _ _ _ hr)
    intro g p l e R s m args below meth c _ o2 _ C H locs cells slots LS Qt _ _ hL kk
    obtain ⟨hx, hb, -⟩ := C
    exact lv_pop hx hb hd (eTr_cat g a) (kk LS hL)
  · cases hr
theorem sDup2 (hf : eSnd f) (hd : decode (eB y) pc = .ok (.dup2, 1)) (hr : (match st with
    | a :: b :: st => f y (pc + 1) ls (a :: b :: a :: b :: st) h
    | _ => none) = some (r, h')) : eConc y pc ls st h r h' := by
  split at hr
  · next a b st =>
    refine eStep (eStp0 (fun o1 o2 _ => ⟨o1, eOkL_cons.mpr ⟨(eOkL_cons.mp o2).1, eOkL_cons.mpr ⟨(eOkL_cons.mp (eOkL_cons.mp o2).2).1, o2⟩⟩⟩) ?_) (hf _ _ _ _ _ _ _ hr)
    intro g p l e R s m args below meth c _ o2 _ C H locs cells slots LS Qt _ _ hL kk
    obtain ⟨hx, hb, -⟩ := C
    exact lv_dup2_11 hx hb hd (eTr_cat g a) (eTr_cat g b) (kk LS hL)
  · cases hr
theorem sI2c (hf : eSnd f) (hd : decode (eB y) pc = .ok (.i2c, 1)) (hr : (match st with
    | .inl a :: st => f y (pc + 1) ls (.inl ((Int32.ofInt a).toUInt32 % 65536).toInt32.toInt :: st) h
    | _ => none) = some (r, h')) : eConc y pc ls st h r h' := by
  split at hr
  · next a st =>
    refine eStep (eStp0 (fun o1 o2 _ => ⟨o1, eOkL_cons.mpr ⟨eOkV_l (i32_ok _), (eOkL_cons.mp o2).2⟩⟩) ?_) (hf _ _ _ _ _ _ _ hr)
    intro g p l e R s m args below meth c _ o2 _ C H locs cells slots LS Qt _ _ hL kk
    obtain ⟨hx, hb, -⟩ := C
    refine lv_i2c hx hb hd (v := Int32.ofInt ((Int32.ofInt a).toUInt32 % 65536).toInt32.toInt) ?_ (kk LS hL)
    rw [Int32.ofInt_toInt]
  · cases hr
end ESTEPS
end
section
/-! the instructions that read and write cells -/
theorem eFk_spec {o i : Nat} {q : Nat × Nat × Nat} (h : eFk o i = some q) : ∃ (C : String) (T : u_T) (N : Nat), vwCl[q.1]? = some (C, T, N) ∧ q.2.1 < N ∧ Cond.fieldLink (eR o) i C (T q.2.1).2.1 (T q.2.1).2.2.1 ∈ eWs ∧ (T q.2.1).1 = C ∧
    ((q.2.2 = 0 ∧ parseFieldDescriptor (T q.2.1).2.2.1 = some .int) ∨ (q.2.2 = 1 ∧ parseFieldDescriptor (T q.2.1).2.2.1 = some .boolean) ∨ (q.2.2 ≠ 0 ∧ q.2.2 ≠ 1 ∧ eRefTy (parseFieldDescriptor (T q.2.1).2.2.1) = true)) := by
  unfold eFk at h
  obtain ⟨e, he, rfl⟩ := Option.map_eq_some_iff.mp h
  have h1 := List.all_eq_true.mp eFl_ok e (List.mem_of_find?_eq_some he)
  have h2 := List.find?_some he
  simp only [Bool.and_eq_true, beq_iff_eq] at h2
  obtain ⟨h2, h3⟩ := h2
  subst h2; subst h3
  unfold eFchk at h1
  split at h1
  · next q hq =>
    obtain ⟨C, T, N⟩ := q
    simp only [Bool.and_eq_true, decide_eq_true_eq] at h1
    obtain ⟨⟨⟨a1, a2⟩, a3⟩, a4⟩ := h1
    refine ⟨C, T, N, hq, a1, eAt_of a2, a3, ?_⟩
    dsimp only
    split at a4
    · next z => exact Or.inl ⟨z, by simpa using a4⟩
    · next z =>
      split at a4
      · next z2 => exact Or.inr (Or.inl ⟨z2, by simpa using a4⟩)
      · next z2 => exact Or.inr (Or.inr ⟨z, z2, a4⟩)
  · cases h1
theorem eV_spec {ci : Nat} {C : String} {T : u_T} {N : Nat} (h : vwCl[ci]? = some (C, T, N)) : (∀ w ∈ u_ws C T N, w ∈ eWs) ∧ Cond.instantiable C N ∈ eWs ∧ Cond.initialized C ∈ eWs := by
  have h1 := List.all_eq_true.mp eV_ok _ (List.mem_of_getElem? h)
  unfold eVchk at h1
  simp only [Bool.and_eq_true, decide_eq_true_eq, List.all_eq_true] at h1
  obtain ⟨⟨⟨⟨a1, a2⟩, a3⟩, a4⟩, a5⟩ := h1
  exact ⟨fun w hw => List.mem_filter.mpr (a1 w hw), List.mem_filter.mpr ⟨a2, a4⟩, List.mem_filter.mpr ⟨a3, a5⟩⟩
theorem eV_ty {ci : Nat} {C : String} {T : u_T} {N : Nat} (h : vwCl[ci]? = some (C, T, N)) : (∃ ty0 : Nat → FieldType, ∀ k, k < N → parseFieldDescriptor (T k).2.2.1 = some (ty0 k)) ∧ (∀ a, a < N → ∀ b, b < N → a ≠ b → (T a).2.1 ≠ (T b).2.1) := by
  match ci, h with
  | 0, h => cases h; exact ⟨⟨tyX0, tyX0_ok⟩, nmX0⟩
  | 1, h => cases h; exact ⟨⟨tyX1, tyX1_ok⟩, nmX1⟩
  | 2, h => cases h; exact ⟨⟨tyX2, tyX2_ok⟩, nmX2⟩
  | 3, h => cases h; exact ⟨⟨tyX3, tyX3_ok⟩, nmX3⟩
  | 4, h => cases h; exact ⟨⟨tyX4, tyX4_ok⟩, nmX4⟩
  | 5, h => cases h; exact ⟨⟨tyX5, tyX5_ok⟩, nmX5⟩
  | 6, h => cases h; exact ⟨⟨tyX7, tyX7_ok⟩, nmX7⟩
  | 7, h => cases h; exact ⟨⟨tyX8, tyX8_ok⟩, nmX8⟩
  | 8, h => cases h; exact ⟨⟨tyX9, tyX9_ok⟩, nmX9⟩
  | n + 9, h => simp [vwCl] at h
def eTchk (q : vw_C) : Bool := (List.range q.2.2).all fun k => decide (parseFieldDescriptor (q.2.1 k).2.2.1 = some .int) || decide (parseFieldDescriptor (q.2.1 k).2.2.1 = some .boolean) || eRefTy (parseFieldDescriptor (q.2.1 k).2.2.1)
set_option maxRecDepth 100000 in
theorem eT_ok : vwCl.all eTchk = true := by decide +kernel
def eOchk (o : Nat) : Bool := match vwCl[eG o]? with
  | some q => decide (q.1 = eR o)
  | none => true
set_option maxRecDepth 100000 in
theorem eO_ok : (List.range 13).all eOchk = true := by decide +kernel
theorem eAd_lo (g : eGt) {k : Nat} (h : k < 8) : eAd g k = g.2.1 k := by simp [eAd, h]
theorem eAd_hi (g : eGt) {k : Nat} (h : 8 ≤ k) : eAd g k = g.1 + (k - 8) := by simp [eAd, Nat.not_lt.mpr h]
theorem eTr_r (g : eGt) {a : Nat} (h : a ≠ 0) : eTr g (.inr a) = .ref (eAd g a) := by simp [eTr, h]
theorem eTr_rf (g : eGt) (a : Nat) : va_rf (eRo g (.inr a)) = eTr g (.inr a) := by
  by_cases h : a = 0 <;> simp [eRo, eTr, h, va_rf]
theorem i32_nat {n : Nat} (h : n < 2147483648) : Int32.ofNat n = Int32.ofInt (n : Int) := by
  apply Int32.toInt_inj.mp
  rw [show (Int32.ofNat n).toInt = (n : Int) from nI_toInt (by omega)]
  exact (w32_of (by omega) (by omega)).symm
theorem i32_clamp {i : Int} (h : -2147483648 ≤ i ∧ i ≤ 2147483647) : (Int32.ofInt i).toNatClampNeg = i.toNat := by
  show (Int32.ofInt i).toInt.toNat = _
  rw [show (Int32.ofInt i).toInt = i from w32_of h.1 h.2]
theorem i32_in {i : Int} {n : Nat} (h : -2147483648 ≤ i ∧ i ≤ 2147483647) (h0 : 0 ≤ i) (hn : i.toNat < n) : vp_in (Int32.ofInt i) n := by
  rintro (q | q)
  · have := (i32_lt h ok0).mp q
    omega
  · rw [i32_clamp h] at q
    omega
theorem eEn_int (g : eGt) (l : List eV) : eEn g (100, l) = .inl (g.2.2.2 0, l.length, .inl (fun j => Int32.ofInt (eVi (l.getD j (.inl 0))))) := rfl
theorem eEn_char (g : eGt) (l : List eV) : eEn g (101, l) = .inl (g.2.2.2 1, l.length, .inl (fun j => Int32.ofInt (eVi (l.getD j (.inl 0))))) := rfl
theorem eEn_lamp (g : eGt) (l : List eV) : eEn g (102, l) = .inl (g.2.2.2 2, l.length, .inr (.inr (.inr (.inr (fun j => eRo g (l.getD j (.inl 0))))))) := rfl
theorem eEn_beacon (g : eGt) (l : List eV) : eEn g (103, l) = .inl (g.2.2.2 3, l.length, .inr (.inr (.inr (.inr (fun j => eRo g (l.getD j (.inl 0))))))) := rfl
theorem eEn_obj (g : eGt) {t : Nat} (ht : t < 100) (l : List eV) : eEn g (t, l) = .inr (t, l.map (eTr g)) := by simp [eEn, ht]
section ESTEPS2
variable {f : eK} {y pc k : Nat} {ls st : List eV} {h h' : eH} {r : Option eV}
theorem sAlen (hf : eSnd f) (hr : xAlen f y (pc + 1) ls st h = some (r, h')) (hd : decode (eB y) pc = .ok (.arraylength, 1)) : eConc y pc ls st h r h' := by
  unfold xAlen at hr
  split at hr
  · next a st =>
    split at hr
    · next cc hc =>
      split at hr
      · next hcond =>
        obtain ⟨h1, h2, h3⟩ := hcond
        obtain ⟨t, l⟩ := cc
        refine eStep (eStp0 (fun o1 o2 _ => ⟨o1, eOkL_cons.mpr ⟨eOkV_l (by constructor <;> (dsimp only at h3 ⊢; omega)), (eOkL_cons.mp o2).2⟩⟩) ?_) (hf _ _ _ _ _ _ _ hr)
        intro g p l1 e R s m args below meth c _ o2 _ C H locs cells slots LS Qt hW hS hL kk
        obtain ⟨hx, hb, hml, hown, hts, hin, hfr, hlo, hSt⟩ := C
        rw [List.map_cons, eTr_r g h2]
        have k2 := kk LS hL
        by_cases ha : a < 8
        · rw [eAd_lo g ha]
          obtain ⟨e1, e2, e3, e4⟩ := hSt.1 a _ (Nat.pos_of_ne_zero h2) ha hc
          refine va_slen hx hb e4 (Nat.lt_of_lt_of_le e2 e3) (Nat.not_le.mpr e2) hS hd ?_
          rw [i32_nat h3]
          exact k2
        · have ha8 : 8 ≤ a := Nat.not_lt.mp ha
          rw [eAd_hi g ha8]
          have hget := eWl_get (g := g) hc ha8
          have ht : t = 100 ∨ t = 101 ∨ t = 102 ∨ t = 103 := by
            simp only [eArr, Bool.or_eq_true, Bool.and_eq_true, beq_iff_eq, decide_eq_true_eq] at h1
            omega
          rcases ht with rfl | rfl | rfl | rfl
          · rw [eEn_int] at hget
            exact va_alen hx hb hSt.2.2.2.2 hW.2.2 (a - 8) 0 hget rfl (i32_nat h3) hd k2
          · rw [eEn_char] at hget
            exact va_alen hx hb hSt.2.2.2.2 hW.2.2 (a - 8) 1 hget rfl (i32_nat h3) hd k2
          · rw [eEn_lamp] at hget
            exact va_alen hx hb hSt.2.2.2.2 hW.2.2 (a - 8) 2 hget rfl (i32_nat h3) hd k2
          · rw [eEn_beacon] at hget
            exact va_alen hx hb hSt.2.2.2.2 hW.2.2 (a - 8) 3 hget rfl (i32_nat h3) hd k2
      · cases hr
    · cases hr
  · cases hr
theorem sIald {t : Nat} (hf : eSnd f) (hr : xIald f y (pc + 1) t ls st h = some (r, h')) (hd : (t = 100 ∧ decode (eB y) pc = .ok (.iaload, 1)) ∨ (t = 101 ∧ decode (eB y) pc = .ok (.caload, 1) ∧ ∀ i a rest, st = .inl i :: .inr a :: rest → 8 ≤ a)) : eConc y pc ls st h r h' := by
  unfold xIald at hr
  split at hr
  · next i a st =>
    split at hr
    · next cc hc =>
      split at hr
      · next hcond =>
        obtain ⟨h1, h2, h3⟩ := hcond
        obtain ⟨t', l⟩ := cc
        dsimp only at h1 hr
        subst h1
        split at hr
        · next x hxl =>
          have hil : i.toNat < l.length := (List.getElem?_eq_some_iff.mp hxl).1
          refine eStep (eStp0 (fun o1 o2 o3 => ⟨o1, eOkL_cons.mpr ⟨eOkL_get (eOkH_get o3 hc) hxl, (eOkL_cons.mp (eOkL_cons.mp o2).2).2⟩⟩) ?_) (hf _ _ _ _ _ _ _ hr)
          intro g p l1 e R s m args below meth c _ o2 _ C H locs cells slots LS Qt hW hS hL kk
          obtain ⟨hx, hb, hml, hown, hts, hin, hfr, hlo, hSt⟩ := C
          have oi := (eOkL_cons.mp o2).1 i rfl
          rw [List.map_cons, List.map_cons, eTr_r g h3]
          have k2 := kk LS hL
          have hv : Int32.ofInt (eVi (l.getD (Int32.ofInt i).toNatClampNeg (.inl 0))) = Int32.ofInt x := by rw [i32_clamp oi, List.getD_eq_getElem?_getD, hxl]; rfl
          have k3 : W p l1 e R s m args below meth c H locs cells slots Qt (F0 m (pc + 1) LS (.int (Int32.ofInt (eVi (l.getD (Int32.ofInt i).toNatClampNeg (.inl 0)))) :: st.map (eTr g))) := by rw [hv]; exact k2
          by_cases ha : a < 8
          · rw [eAd_lo g ha]
            obtain ⟨e1, e2, e3, e4⟩ := hSt.1 a _ (Nat.pos_of_ne_zero h3) ha hc
            rcases hd with ⟨rfl, hd⟩ | ⟨rfl, hd, h8⟩
            · exact va_sld hx hb e4 (Nat.lt_of_lt_of_le e2 e3) (Nat.not_le.mpr e2) hS (i32_in oi h2 hil) hd k3
            · exact absurd (h8 i a st rfl) (by omega)
          · have ha8 : 8 ≤ a := Nat.not_lt.mp ha
            rw [eAd_hi g ha8]
            have hget := eWl_get (g := g) hc ha8
            rcases hd with ⟨rfl, hd⟩ | ⟨rfl, hd, h8⟩
            · rw [eEn_int] at hget
              exact va_iald hx hb hSt.2.2.2.2 hW.2.2 (a - 8) 0 hget rfl (i32_in oi h2 hil) hd k3
            · rw [eEn_char] at hget
              exact va_cald hx hb hSt.2.2.2.2 hW.2.2 (a - 8) 1 hget rfl (i32_in oi h2 hil) hd k3
        · cases hr
      · cases hr
    · cases hr
  · cases hr
theorem sAald (hf : eSnd f) (hr : xAald f y (pc + 1) ls st h = some (r, h')) (hd : decode (eB y) pc = .ok (.aaload, 1)) : eConc y pc ls st h r h' := by
  unfold xAald at hr
  split at hr
  · next i a st =>
    split at hr
    · next cc hc =>
      split at hr
      · next hcond =>
        obtain ⟨h1, h2, ha8⟩ := hcond
        obtain ⟨t, l⟩ := cc
        dsimp only at h1 hr
        split at hr
        · next x hxl =>
          have hil : i.toNat < l.length := (List.getElem?_eq_some_iff.mp hxl).1
          refine eStep (eStp0 (fun o1 o2 o3 => ⟨o1, eOkL_cons.mpr ⟨eOkV_r x, (eOkL_cons.mp (eOkL_cons.mp o2).2).2⟩⟩) ?_) (hf _ _ _ _ _ _ _ hr)
          intro g p l1 e R s m args below meth c _ o2 _ C H locs cells slots LS Qt hW hS hL kk
          obtain ⟨hx, hb, hml, hown, hts, hin, hfr, hlo, hSt⟩ := C
          have oi := (eOkL_cons.mp o2).1 i rfl
          rw [List.map_cons, List.map_cons, eTr_r g (show a ≠ 0 by omega), eAd_hi g ha8]
          have k2 := kk LS hL
          have hv : va_rf (eRo g (l.getD (Int32.ofInt i).toNatClampNeg (.inl 0))) = eTr g (.inr x) := by rw [i32_clamp oi, List.getD_eq_getElem?_getD, hxl]; exact eTr_rf g x
          have k3 : W p l1 e R s m args below meth c H locs cells slots Qt (F0 m (pc + 1) LS (va_rf (eRo g (l.getD (Int32.ofInt i).toNatClampNeg (.inl 0))) :: st.map (eTr g))) := by rw [hv]; exact k2
          have hget := eWl_get (g := g) hc ha8
          rcases h1 with rfl | rfl
          · rw [eEn_lamp] at hget
            exact va_aldq hx hb hSt.2.2.2.2 hW.2.2 (a - 8) 2 hget rfl (i32_in oi h2 hil) hd k3
          · rw [eEn_beacon] at hget
            exact va_aldq hx hb hSt.2.2.2.2 hW.2.2 (a - 8) 3 hget rfl (i32_in oi h2 hil) hd k3
        · cases hr
      · cases hr
    · cases hr
  · cases hr
theorem e_upd (l : List eV) {i : Nat} (hi : i < l.length) (x : Int) : upd (fun j => Int32.ofInt (eVi (l.getD j (.inl 0)))) i (Int32.ofInt x) = fun j => Int32.ofInt (eVi ((l.set i (.inl x)).getD j (.inl 0))) := by
  funext j
  dsimp only [upd]
  by_cases hj : j = i
  · subst hj
    rw [if_pos rfl, List.getD_eq_getElem?_getD, List.getElem?_set_self hi]
    rfl
  · rw [if_neg hj, List.getD_eq_getElem?_getD, List.getD_eq_getElem?_getD, List.getElem?_set_ne (fun q => hj q.symm)]
theorem e_up (g : eGt) (l : List eV) {i : Nat} (hi : i < l.length) {x : Nat} (hx : x ≠ 0) : va_up (fun j => eRo g (l.getD j (.inl 0))) i (some (eAd g x)) = fun j => eRo g ((l.set i (.inr x)).getD j (.inl 0)) := by
  funext j
  dsimp only [va_up]
  by_cases hj : j = i
  · subst hj
    rw [if_pos rfl, List.getD_eq_getElem?_getD, List.getElem?_set_self hi]
    simp [eRo, hx]
  · rw [if_neg hj, List.getD_eq_getElem?_getD, List.getD_eq_getElem?_getD, List.getElem?_set_ne (fun q => hj q.symm)]
/-- a cell's contents change, its length doesn't -/
theorem eStpSet {a : Nat} {c0 c1 : eC} {ls2 st2 : List eV} {pc2 : Nat} (hc : h[a]? = some c0) (hl : c1.2.length = c0.2.length) (h8 : 8 ≤ a) (hok : eOkL ls → eOkL st → eOkH h → eOkL ls2 ∧ eOkL st2 ∧ eOkL c1.2)
    (hW : ∀ (g : eGt) (p : Program) (l : Launch) (e : Env) (R : Room) (s : State) (m : MethodId) (args : Array Value) (below : List Frame) (meth : Method) (c : Code), eOkL ls → eOkL st → eOkH h →
      eCx g y h p R s m args meth c → ∀ (H : Heap) (locs : List Loc) (cells slots : Nat) (LS : Array Slot) (Qt : State → Prop), eWd g h H → va_S (eAr g) s.heap H locs → eLr g y ls LS →
      (∀ (H2 : Heap) (locs2 : List Loc) (LS2 : Array Slot), H2.size = H.size → va_P g.2.2.1 vwCl ((eWl g h).set (a - 8) (g.1 + (a - 8), eEn g c1)) H2 → va_S (eAr g) s.heap H2 locs2 → eLr g y ls2 LS2 → W p l e R s m args below meth c H2 locs2 cells slots Qt (F0 m pc2 LS2 (st2.map (eTr g)))) →
      W p l e R s m args below meth c H locs cells slots Qt (F0 m pc LS (st.map (eTr g)))) : eStp y pc ls st h pc2 ls2 st2 (h.set a c1) := by
  have hal := (List.getElem?_eq_some_iff.mp hc).1
  intro o1 o2 o3 o4
  obtain ⟨p1, p2, p3⟩ := hok o1 o2 o3
  refine ⟨⟨p1, p2, eOkH_set o3 p3, eGr_set hc hl h8⟩, ?_⟩
  intro g p l e R s m args below meth c C H locs cells slots LS Qt hw hS hL _ _ kk
  refine hW g p l e R s m args below meth c o1 o2 o3 C H locs cells slots LS Qt hw hS hL ?_
  intro H2 locs2 LS2 z hP hS2 hL2
  have := kk H2 locs2 LS2 ⟨by rw [List.length_set]; exact hw.1, by rw [List.length_set, z]; exact hw.2.1, by rw [eWl_set h8 hal]; exact hP⟩ hS2 hL2
  rw [eSz_set hc hl, List.length_set, Nat.sub_self, Nat.sub_self, Nat.add_zero, Nat.add_zero] at this
  exact this
theorem e_updV (l : List eV) {i : Nat} (hi : i < l.length) (x : Int) : updV (fun j => Value.int (Int32.ofInt (eVi (l.getD j (.inl 0))))) i (.int (Int32.ofInt x)) = fun j => Value.int (Int32.ofInt (eVi ((l.set i (.inl x)).getD j (.inl 0)))) := by
  funext j
  have := congrFun (e_upd l hi x) j
  dsimp only [upd, updV] at this ⊢
  by_cases hj : j = i
  · rw [if_pos hj] at this ⊢; rw [this]
  · rw [if_neg hj] at this ⊢; rw [this]
theorem e_updQ (g : eGt) (l : List eV) {i : Nat} (hi : i < l.length) {x : Nat} (hx : x ≠ 0) : updV (fun j => va_rf (eRo g (l.getD j (.inl 0)))) i (.ref (eAd g x)) = fun j => va_rf (eRo g ((l.set i (.inr x)).getD j (.inl 0))) := by
  funext j
  have := congrFun (e_up g l hi hx) j
  dsimp only [va_up, updV] at this ⊢
  by_cases hj : j = i
  · rw [if_pos hj] at this ⊢; rw [← this]; rfl
  · rw [if_neg hj] at this ⊢; rw [this]
theorem sIastore {t : Nat} (hf : eSnd f) (hr : xIastore f y (pc + 1) t ls st h = some (r, h')) (hd : (t = 100 ∧ decode (eB y) pc = .ok (.iastore, 1)) ∨ (t = 101 ∧ decode (eB y) pc = .ok (.castore, 1))) : eConc y pc ls st h r h' := by
  unfold xIastore at hr
  split at hr
  · next x i a st =>
    split at hr
    · next cc hc =>
      split at hr
      · next hcond =>
        obtain ⟨h1, h2, h3, h8, h4⟩ := hcond
        obtain ⟨t', l⟩ := cc
        dsimp only at h1 h3 hr
        subst h1
        refine eStep (eStpSet hc (by simp) h8 (fun o1 o2 o3 => ⟨o1, (eOkL_cons.mp (eOkL_cons.mp (eOkL_cons.mp o2).2).2).2, eOkL_set (eOkH_get o3 hc) (eOkL_cons.mp o2).1⟩) ?_) (hf _ _ _ _ _ _ _ hr)
        intro g p l1 e R s m args below meth c _ o2 _ C H locs cells slots LS Qt hW hS hL kk
        obtain ⟨hx, hb, hml, hown, hts, hin, hfr, hlo, hSt⟩ := C
        have oi := (eOkL_cons.mp (eOkL_cons.mp o2).2).1 i rfl
        have ox := (eOkL_cons.mp o2).1 x rfl
        rw [List.map_cons, List.map_cons, List.map_cons, eTr_r g (show a ≠ 0 by omega), eAd_hi g h8]
        have hget := eWl_get (g := g) hc h8
        have hAa : eAr g (g.1 + (a - 8)) := Nat.le_add_right _ _
        rcases hd with ⟨rfl, hd⟩ | ⟨rfl, hd⟩
        · rw [eEn_int] at hget
          refine W.iast hx hb (hW.2.2 (a - 8) _ hget) ((hSt.2.2.2.2.2 0 _ rfl).1 l.length (fun j => .int (Int32.ofInt (eVi (l.getD j (.inl 0)))))) (fun q => by cases q) (by show ¬ (_ ∨ (arrV _ _ _).slots.size ≤ _); rw [arrV_size]; exact i32_in oi h2 h3) rfl rfl hd fun H1 e1 z oq => ?_
          refine kk H1 _ LS z (hW.2.2.set eWl_D hget ?_ oq) (hS.put z oq hAa) hL
          show H1[_]? = some (vp_cell _ _)
          rw [e1, vp_cell_i, arrV_store, vp_cell_i, i32_clamp oi, e_updV l h3 x, List.length_set]
          rfl
        · rw [eEn_char] at hget
          refine W.cast hx hb (hW.2.2 (a - 8) _ hget) ((hSt.2.2.2.2.2 1 _ rfl).1 l.length (fun j => .int (Int32.ofInt (eVi (l.getD j (.inl 0)))))) (fun q => by cases q) (by show ¬ (_ ∨ (arrV _ _ _).slots.size ≤ _); rw [arrV_size]; exact i32_in oi h2 h3) rfl rfl hd fun H1 e1 z oq => ?_
          refine kk H1 _ LS z (hW.2.2.set eWl_D hget ?_ oq) (hS.put z oq hAa) hL
          have hn : narrow .char (.int (Int32.ofInt x)) = .int (Int32.ofInt x) := by
            have hx2 := h4 rfl
            have := (pk_charN (q := x.toNat) (by omega)).1
            have e : nI x.toNat = Int32.ofInt x := by
              rw [show nI x.toNat = Int32.ofNat x.toNat from rfl, i32_nat (by omega), Int.toNat_of_nonneg hx2.1]
            rw [e] at this
            exact this
          show H1[_]? = some (vp_cell _ _)
          rw [e1, hn, vp_cell_i, arrV_store, vp_cell_i, i32_clamp oi, e_updV l h3 x, List.length_set]
          rfl
      · cases hr
    · cases hr
  · cases hr
theorem sAastore (hf : eSnd f) (hr : xAastore f y (pc + 1) ls st h = some (r, h')) (hd : decode (eB y) pc = .ok (.aastore, 1)) : eConc y pc ls st h r h' := by
  unfold xAastore at hr
  split at hr
  · next x i a st =>
    split at hr
    · next cc dd hc hdx =>
      split at hr
      · next hcond =>
        obtain ⟨h1, h2, h3, h8, hx8⟩ := hcond
        obtain ⟨t', l⟩ := cc
        obtain ⟨td, ld⟩ := dd
        dsimp only at h1 h3 hr
        refine eStep (eStpSet hc (by simp) h8 (fun o1 o2 o3 => ⟨o1, (eOkL_cons.mp (eOkL_cons.mp (eOkL_cons.mp o2).2).2).2, eOkL_set (eOkH_get o3 hc) (eOkL_cons.mp o2).1⟩) ?_) (hf _ _ _ _ _ _ _ hr)
        intro g p l1 e R s m args below meth c _ o2 _ C H locs cells slots LS Qt hW hS hL kk
        obtain ⟨hx, hb, hml, hown, hts, hin, hfr, hlo, hSt⟩ := C
        have oi := (eOkL_cons.mp (eOkL_cons.mp o2).2).1 i rfl
        rw [List.map_cons, List.map_cons, List.map_cons, eTr_r g (show a ≠ 0 by omega), eTr_r g (show x ≠ 0 by omega), eAd_hi g h8]
        have hget := eWl_get (g := g) hc h8
        have hgetx := eWl_get (g := g) hdx hx8
        have hAa : eAr g (g.1 + (a - 8)) := Nat.le_add_right _ _
        have K := hSt.2.2.2.2
        have key : ∀ (t0 ci : Nat) (q : vw_C) (l0 : List eV), vwCl[ci]? = some q → (eTys g)[t0]? = some (g.2.2.2 t0, .object q.1) → (eWl g h)[a - 8]? = some (g.1 + (a - 8), .inl (g.2.2.2 t0, l.length, .inr (.inr (.inr (.inr (fun j => eRo g (l.getD j (.inl 0)))))))) → (eWl g h)[x - 8]? = some (g.1 + (x - 8), .inr (ci, ld.map (eTr g))) →
            (eEn g (t', l.set i.toNat (.inr x)) = .inl (g.2.2.2 t0, (l.set i.toNat (.inr x)).length, .inr (.inr (.inr (.inr (fun j => eRo g ((l.set i.toNat (.inr x)).getD j (.inl 0)))))))) →
            W p l1 e R s m args below meth c H locs cells slots Qt (F0 m pc LS (.ref (eAd g x) :: eTr g (.inl i) :: .ref (g.1 + (a - 8)) :: st.map (eTr g))) := by
          intro t0 ci q l0 hci ht hget hgetx hen
          obtain ⟨r', hr', cellV, g1, g2, g3, -⟩ := hW.2.2 (x - 8) _ hgetx
          have hcls := (K.1 ci q hci).2
          obtain ⟨kA, comp, k1, k2, k3, -⟩ := (K.2 t0 _ ht).2
          have hcomp : comp = g.2.2.1.1 ci := Option.some.inj (k3.symm.trans hcls.1)
          subst hcomp
          obtain ⟨kC, hkC, -⟩ := hcls.2
          rw [eAd_hi g hx8]
          refine W.aast hx hb (hW.2.2 (a - 8) _ hget) (fun q h => by cases h) (fun h => by cases h) k1 k2 rfl hkC ⟨fun z => i32_in oi h2 h3 (Or.inl z), by show _ < (arrV _ _ _).slots.size; rw [arrV_size]; exact Nat.not_le.mp (fun z => i32_in oi h2 h3 (Or.inr z))⟩ g1 (fun q h => by rw [g3] at h; cases h) (by rw [g2]; exact hkC) (by rw [g2]; exact va_assign hcls) rfl rfl hd fun H1 e1 z oq => ?_
          refine kk H1 _ LS z (hW.2.2.set eWl_D hget ?_ oq) (hS.put z oq hAa) hL
          rw [hen]
          show H1[_]? = some (vp_cell _ _)
          rw [e1, vp_cell_q, arrV_store, vp_cell_q, i32_clamp oi, ← eAd_hi g hx8, e_updQ g l h3 (show x ≠ 0 by omega), List.length_set]
        rcases h1 with ⟨rfl, rfl⟩ | ⟨rfl, rfl⟩
        · rw [eEn_lamp] at hget
          rw [eEn_obj g (by omega)] at hgetx
          exact key 2 3 _ l rfl rfl hget hgetx (eEn_lamp g _)
        · rw [eEn_beacon] at hget
          rw [eEn_obj g (by omega)] at hgetx
          exact key 3 0 _ l rfl rfl hget hgetx (eEn_beacon g _)
      · cases hr
    · cases hr
  · cases hr
theorem sGet {idx : Nat} (hf : eSnd f) (hr : xGet f y pc idx ls st h = some (r, h')) (hd : decode (eB y) pc = .ok (.getfield idx, 3)) : eConc y pc ls st h r h' := by
  unfold xGet at hr
  split at hr
  · next a st =>
    split at hr
    · next q cc hq hc =>
      split at hr
      · next hcond =>
        obtain ⟨h1, h8⟩ := hcond
        obtain ⟨t, l⟩ := cc
        dsimp only at h1 hr
        split at hr
        · next v hv =>
          refine eStep (eStp0 (fun o1 o2 o3 => ⟨o1, eOkL_cons.mpr ⟨eOkL_get (eOkH_get o3 hc) hv, (eOkL_cons.mp o2).2⟩⟩) ?_) (hf _ _ _ _ _ _ _ hr)
          intro g p l1 e R s m args below meth c _ o2 _ C H locs cells slots LS Qt hW hS hL kk
          obtain ⟨hx, hb, hml, hown, hts, hin, hfr, hlo, hSt⟩ := C
          rw [List.map_cons, eTr_r g (show a ≠ 0 by omega), eAd_hi g h8]
          obtain ⟨C, T, N, hC, hN, hlink, hsame, -⟩ := eFk_spec hq
          have ht : t < 100 := by
            have := (List.getElem?_eq_some_iff.mp hC).1
            rw [← h1] at this
            exact Nat.lt_trans this (by decide)
          have hget := eWl_get (g := g) hc h8
          rw [eEn_obj g ht, h1] at hget
          exact va_get (D := g.2.2.1) hx hb hts (eV_spec hC).1 hown hSt.2.2.2.2 hW.2.2 (a - 8) hget hC q.2.1 hN (hts _ hlink) (fun _ h9 => by rw [hsame] at h9; exact h9) (by rw [List.getElem?_map, hv]; rfl) hd (kk LS hL)
        · cases hr
      · cases hr
    · cases hr
  · cases hr
theorem eFit_spec {ty : Option FieldType} {t : Nat} {v : eV} (g : eGt) (h : eFit t v = true) (hty : (t = 0 ∧ ty = some .int) ∨ (t = 1 ∧ ty = some .boolean) ∨ (t ≠ 0 ∧ t ≠ 1 ∧ eRefTy ty = true)) : ∃ ty0, ty = some ty0 ∧ narrow ty0 (eTr g v) = eTr g v ∧ fits ty0 (eTr g v) = true := by
  cases v with
  | inl x =>
    simp only [eFit, Bool.or_eq_true, Bool.and_eq_true, beq_iff_eq] at h
    rcases hty with ⟨rfl, rfl⟩ | ⟨rfl, rfl⟩ | ⟨h1, h2, -⟩
    · exact ⟨_, rfl, rfl, rfl⟩
    · rcases h with h | ⟨-, rfl | rfl⟩
      · cases h
      · exact ⟨_, rfl, (show narrow .boolean (.int (Int32.ofInt 0)) = .int (Int32.ofInt 0) by decide +kernel), (show fits .boolean (.int (Int32.ofInt 0)) = true by decide +kernel)⟩
      · exact ⟨_, rfl, (show narrow .boolean (.int (Int32.ofInt 1)) = .int (Int32.ofInt 1) by decide +kernel), (show fits .boolean (.int (Int32.ofInt 1)) = true by decide +kernel)⟩
    · omega
  | inr a =>
    simp only [eFit, Bool.and_eq_true, beq_iff_eq, bne_iff_ne, ne_eq] at h
    obtain ⟨rfl, h0⟩ := h
    rcases hty with ⟨h1, -⟩ | ⟨h1, -⟩ | ⟨-, -, h3⟩
    · cases h1
    · cases h1
    · unfold eRefTy at h3
      rw [eTr_r g h0]
      split at h3
      · exact ⟨_, rfl, rfl, rfl⟩
      · exact ⟨_, rfl, rfl, rfl⟩
      · cases h3
theorem sPut {idx : Nat} (hf : eSnd f) (hr : xPut f y pc idx ls st h = some (r, h')) (hd : decode (eB y) pc = .ok (.putfield idx, 3)) : eConc y pc ls st h r h' := by
  unfold xPut at hr
  split at hr
  · next v a st =>
    split at hr
    · next q cc hq hc =>
      split at hr
      · next hcond =>
        obtain ⟨h1, h8, hlen, hfit, hfin⟩ := hcond
        obtain ⟨t, l⟩ := cc
        dsimp only at h1 hr hlen
        refine eStep (eStpSet hc (by simp) h8 (fun o1 o2 o3 => ⟨o1, (eOkL_cons.mp (eOkL_cons.mp o2).2).2, eOkL_set (eOkH_get o3 hc) (eOkL_cons.mp o2).1⟩) ?_) (hf _ _ _ _ _ _ _ hr)
        intro g p l1 e R s m args below meth c _ o2 _ C H locs cells slots LS Qt hW hS hL kk
        obtain ⟨hx, hb, hml, hown, hts, hin, hfr, hlo, hSt⟩ := C
        rw [List.map_cons, List.map_cons, eTr_r g (show a ≠ 0 by omega), eAd_hi g h8]
        obtain ⟨C, T, N, hC, hN, hlink, hsame, hty⟩ := eFk_spec hq
        have ht : t < 100 := by
          have := (List.getElem?_eq_some_iff.mp hC).1
          rw [← h1] at this
          exact Nat.lt_trans this (by decide)
        have hget := eWl_get (g := g) hc h8
        rw [eEn_obj g ht, h1] at hget
        obtain ⟨ty, hpt, hn, hft⟩ := eFit_spec g hfit hty
        obtain ⟨⟨ty0, hty0⟩, hnm⟩ := eV_ty hC
        have K := hSt.2.2.2.2
        have hap := va_apart (own := eR (eO y)) hts (eV_spec hC).1 ty0 hty0 hnm K hC
        obtain ⟨r1, h1', cell, q1, q2, q3, q4⟩ := hW.2.2 (a - 8) _ hget
        have hr1 : r1 = (C, T, N) := Option.some.inj (h1'.symm.trans hC)
        subst hr1
        obtain ⟨hSl, hfc, kC, hkC, hkind⟩ := K.1 q.1 _ hC
        obtain ⟨cf, kf, fi, fd, hi, hsl⟩ := hSl q.2.1 hN
        have hlay := hts _ ((eV_spec hC).1 _ (u_in_lay hN))
        have hst := (u_facts hfc hkC (u_lays hts (eV_spec hC).1 hN) hi).1
        have hAa : eAr g (g.1 + (a - 8)) := Nat.le_add_right _ _
        have hi2 : s.fieldFound? C (T q.2.1).2.1 (T q.2.1).2.2.1 = some (cf, kf, fi, fd) := by
          have := hi
          rw [hsame] at this
          exact this
        have fin2 : ∀ H' : Heap, H'[g.1 + (a - 8)]? = some (cell.setSlot fd.slot (eTr g v)) → H'.size = H.size → (∀ z, z ≠ g.1 + (a - 8) → H'[z]? = H[z]?) → W p l1 e R s m args below meth c H' (locs ++ [⟨g.1 + (a - 8), fd.slot⟩]) cells slots Qt (F0 m (pc + 3) LS (st.map (eTr g))) := by
          intro H' e1 e2 e3
          rw [hsl] at e1 ⊢
          refine kk H' _ LS e2 (hW.2.2.set eWl_D hget ?_ e3) (hS.put e2 e3 hAa) hL
          rw [eEn_obj g ht, h1, List.map_set]
          exact ⟨_, hC, t_OB.to (V := updV (vp_V (l.map (eTr g))) q.2.1 (eTr g v)) ⟨_, e1, q2, q3, t_set q4 hap hN (eTr g v)⟩ (fun j _ => vp_updV_set (by simpa using hlen) (eTr g v) j)⟩
        cases hb2 : (T q.2.1).2.2.2 with
        | false =>
          unfold u_lay at hlay
          rw [if_neg (by rw [hb2]; decide)] at hlay
          have h6 := u_store hfc hkC hkind hlay hi hpt hn hft
          exact W.putK hx hb (f := fd) ⟨hown, hts _ hlink, ⟨_, _, _, hi2⟩, hst⟩ (by rw [q2]; exact h6) q1 q3 (by rw [hsl]; exact k2_hasslot (q4 q.2.1 hN)) rfl rfl hd fin2
        | true =>
          have hfin2 : eI y = true ∧ eG (eO y) = q.1 ∧ eO y < 10 := by
            rcases hfin with z | z
            · unfold eFin at z
              rw [hC] at z
              dsimp only at z
              rw [hb2] at z
              cases z
            · exact z
          have hown1 : C = eR (eO y) := by
            have := List.all_eq_true.mp eO_ok (eO y) (List.mem_range.mpr (by omega))
            unfold eOchk at this
            rw [hfin2.2.1, hC] at this
            simpa using this
          unfold u_lay at hlay
          rw [if_pos hb2] at hlay
          have hcf : m.cls = cf := by
            obtain ⟨_, _, c', _, _, _, -, -, hf', -, -, -, hown2, -⟩ := Cond.laysFinal_spec hlay
            have e1 : c' = cf := by have := hi.symm.trans hf'; simp at this; exact this.1.symm
            rw [hsame, hown1] at hown2
            rw [← e1]; exact Option.some.inj (hown.symm.trans hown2)
          have h6 := u_fits hfc hkC hkind (Or.inr hlay) hi hpt hn hft
          exact W.putFinK hx hb hown (hts _ hlink) hi2 hst hcf (hin hfin2.1) (by rw [q2]; exact h6) q1 q3 (by rw [hsl]; exact k2_hasslot (q4 q.2.1 hN)) rfl rfl hd fin2
      · cases hr
    · cases hr
  · cases hr
end ESTEPS2
end
section
/-! statics, new cells, the copy of a row -/
theorem eSk_spec {o i j : Nat} (h : eSk o i = some j) : 1 ≤ j ∧ ∃ f, eSn[j - 1]? = some f ∧ (Cond.fieldLink (eR o) i f.1 f.2 "[I" ∈ eWs ∨ ∃ host, Cond.fieldLinkNest (eR o) i f.1 f.2 "[I" host ∈ eNw) := by
  unfold eSk at h
  obtain ⟨e, he, rfl⟩ := Option.map_eq_some_iff.mp h
  have h1 := List.all_eq_true.mp eSl_ok e (List.mem_of_find?_eq_some he)
  have h2 := List.find?_some he
  simp only [Bool.and_eq_true, beq_iff_eq] at h2
  obtain ⟨h2, h3⟩ := h2
  subst h2; subst h3
  unfold eSchk at h1
  split at h1
  · next f hf =>
    simp only [Bool.and_eq_true, decide_eq_true_eq] at h1
    obtain ⟨a1, a2⟩ := h1
    refine ⟨a1, f, hf, ?_⟩
    split at a2
    · exact Or.inl (eAt_of a2)
    · split at a2
      · next a b c n d host hw =>
        simp only [Bool.and_eq_true, decide_eq_true_eq] at a2
        obtain ⟨⟨⟨⟨rfl, rfl⟩, rfl⟩, rfl⟩, rfl⟩ := a2
        exact Or.inr ⟨host, eNw_of hw rfl⟩
      · cases a2
  · cases h1
theorem eNk_spec {o i t : Nat} (h : eNk o i = some t) : (t < 100 ∧ ∃ q, vwCl[t]? = some q ∧ Cond.classLink (eR o) i q.1 ∈ eWs) ∨ (t = 102 ∧ Cond.classLink (eR o) i "LampChanger$Lamp" ∈ eWs) ∨ (t = 103 ∧ Cond.classLink (eR o) i "LampChanger$Beacon" ∈ eWs) := by
  unfold eNk at h
  obtain ⟨e, he, rfl⟩ := Option.map_eq_some_iff.mp h
  have h1 := List.all_eq_true.mp eNl_ok e (List.mem_of_find?_eq_some he)
  have h2 := List.find?_some he
  simp only [Bool.and_eq_true, beq_iff_eq] at h2
  obtain ⟨h2, h3⟩ := h2
  subst h2; subst h3
  unfold eNchk at h1
  split at h1
  · next hl =>
    split at h1
    · next q hq => exact Or.inl ⟨hl, q, hq, eAt_of h1⟩
    · cases h1
  · split at h1
    · next h102 => exact Or.inr (Or.inl ⟨h102, eAt_of h1⟩)
    · split at h1
      · next h103 => exact Or.inr (Or.inr ⟨h103, eAt_of h1⟩)
      · cases h1
theorem eKk_spec {o i : Nat} {n : Int} (h : eKk o i = some n) : Cond.constant (eR o) i (Int32.ofInt n) ∈ eWs ∧ w32 n = n := by
  unfold eKk at h
  obtain ⟨e, he, rfl⟩ := Option.map_eq_some_iff.mp h
  have h1 := List.all_eq_true.mp eKl_ok e (List.mem_of_find?_eq_some he)
  have h2 := List.find?_some he
  simp only [Bool.and_eq_true, beq_iff_eq] at h2
  obtain ⟨h2, h3⟩ := h2
  subst h2; subst h3
  unfold eKchk at h1
  simp only [Bool.and_eq_true, decide_eq_true_eq] at h1
  exact ⟨eAt_of h1.1.1, w32_of h1.1.2 h1.2⟩
theorem eTc_spec {ci : Nat} {C : String} {T : u_T} {N : Nat} (h : vwCl[ci]? = some (C, T, N)) {k : Nat} (hk : k < N) : parseFieldDescriptor (T k).2.2.1 = some .int ∨ parseFieldDescriptor (T k).2.2.1 = some .boolean ∨ eRefTy (parseFieldDescriptor (T k).2.2.1) = true := by
  have h1 := List.all_eq_true.mp eT_ok _ (List.mem_of_getElem? h)
  unfold eTchk at h1
  have h2 := List.all_eq_true.mp h1 k (List.mem_range.mpr hk)
  simp only [Bool.or_eq_true, decide_eq_true_eq] at h2
  rcases h2 with (h2 | h2) | h2
  · exact Or.inl h2
  · exact Or.inr (Or.inl h2)
  · exact Or.inr (Or.inr h2)
theorem eDv_spec {ci : Nat} {C : String} {T : u_T} {N : Nat} {l : List eV} (g : eGt) (hC : vwCl[ci]? = some (C, T, N)) (hl : eDv[ci]? = some l) : l.length = N ∧ (∀ ty0 : Nat → FieldType, (∀ k, k < N → parseFieldDescriptor (T k).2.2.1 = some (ty0 k)) → ∀ j, j < N → defaultValue (ty0 j) = vp_V (l.map (eTr g)) j) ∧ eOkL l := by
  unfold eDv at hl
  rw [List.getElem?_map, hC, Option.map_some] at hl
  cases hl
  refine ⟨by simp, ?_, ?_⟩
  · intro ty0 hty j hj
    have e1 : vp_V (((List.range N).map fun k => if eRefTy (parseFieldDescriptor (T k).2.2.1) then (.inr 0 : eV) else .inl 0).map (eTr g)) j = eTr g (if eRefTy (parseFieldDescriptor (T j).2.2.1) then .inr 0 else .inl 0) := by
      unfold vp_V
      rw [List.getD_eq_getElem?_getD, List.map_map, List.getElem?_map, List.getElem?_range hj]
      rfl
    rw [e1]
    have h3 := hty j hj
    rcases eTc_spec hC hj with h | h | h
    · have e := Option.some.inj (h3.symm.trans h)
      rw [h3, e]
      rfl
    · have e := Option.some.inj (h3.symm.trans h)
      rw [h3, e]
      rfl
    · rw [h3] at h ⊢
      generalize ty0 j = ty at h ⊢
      cases ty <;> first | rfl | cases h
  · intro v hv
    obtain ⟨k, -, rfl⟩ := List.mem_map.mp hv
    split
    · exact eOkV_r 0
    · exact eOkV_l ok0
section ESTEPS3
variable {f : eK} {y pc k : Nat} {ls st : List eV} {h h' : eH} {r : Option eV}
theorem sStat {idx : Nat} (hf : eSnd f) (hd : decode (eB y) pc = .ok (.getstatic idx, 3)) (hr : (match eSk (eO y) idx with
    | some j => f y (pc + 3) ls (.inr j :: st) h
    | none => none) = some (r, h')) : eConc y pc ls st h r h' := by
  split at hr
  · next j hj =>
    obtain ⟨hj1, fd, hfd, hw⟩ := eSk_spec hj
    refine eStep (eStp0 (fun o1 o2 _ => ⟨o1, eOkL_cons.mpr ⟨eOkV_r j, o2⟩⟩) ?_) (hf _ _ _ _ _ _ _ hr)
    intro g p l1 e R s m args below meth c _ o2 _ C H locs cells slots LS Qt hW hS hL kk
    obtain ⟨hx, hb, hml, hown, hts, hin, hfr, hlo, hSt⟩ := C
    have k2 := kk LS hL
    have hj8 : j < 8 := by
      have := (List.getElem?_eq_some_iff.mp hfd).1
      have h6 : eSn.length = 6 := by decide +kernel
      omega
    rw [List.map_cons, eTr_r g (show j ≠ 0 by omega), eAd_lo g hj8] at k2
    have hZ := hSt.2.1.2 (j - 1) fd hfd
    rw [show j - 1 + 1 = j by omega] at hZ
    rcases hw with hw | ⟨host, hw⟩
    · exact va_gets hx hb hZ hS hown (hts _ hw) (fun _ h9 => h9) hd k2
    · exact va_getsN hx hb hZ hS hown (va_Nw.use rfl (hSt.2.2.1 _ hw)) (fun _ h9 => h9) hd k2
  · cases hr
/-- one cell more -/
theorem eStpPush {c1 : eC} {ls2 st2 : List eV} {pc2 : Nat} (hok : eOkL ls → eOkL st → eOkH h → eOkL ls2 ∧ eOkL st2 ∧ eOkL c1.2)
    (hW : ∀ (g : eGt) (p : Program) (l : Launch) (e : Env) (R : Room) (s : State) (m : MethodId) (args : Array Value) (below : List Frame) (meth : Method) (c : Code), eOkL ls → eOkL st → eOkH h → 8 ≤ h.length →
      eCx g y h p R s m args meth c → ∀ (H : Heap) (locs : List Loc) (cells slots : Nat) (LS : Array Slot) (Qt : State → Prop), eWd g h H → va_S (eAr g) s.heap H locs → eLr g y ls LS → cells + 1 ≤ R.cells → slots + c1.2.length ≤ R.slots →
      (∀ (H2 : Heap) (LS2 : Array Slot), H2.size = H.size + 1 → (∀ q : Nat, q < H.size → H2[q]? = H[q]?) → va_at g.2.2.1 vwCl (H.size, eEn g c1) H2 → eLr g y ls2 LS2 → W p l e R s m args below meth c H2 locs (cells + 1) (slots + c1.2.length) Qt (F0 m pc2 LS2 (st2.map (eTr g)))) →
      W p l e R s m args below meth c H locs cells slots Qt (F0 m pc LS (st.map (eTr g)))) : eStp y pc ls st h pc2 ls2 st2 (h ++ [c1]) := by
  intro o1 o2 o3 o4
  obtain ⟨p1, p2, p3⟩ := hok o1 o2 o3
  refine ⟨⟨p1, p2, eOkH_push o3 p3, eGr_push o4⟩, ?_⟩
  have e1 : (h ++ [c1]).length - h.length = 1 := by simp
  have e2 : eSz (h ++ [c1]) - eSz h = c1.2.length := by rw [eSz_push o4]; omega
  intro g p l e R s m args below meth c C H locs cells slots LS Qt hw hS hL hc hs kk
  rw [e1] at hc kk
  rw [e2] at hs kk
  refine hW g p l e R s m args below meth c o1 o2 o3 o4 C H locs cells slots LS Qt hw hS hL hc hs ?_
  intro H2 LS2 z o5 hat hL2
  refine kk H2 locs LS2 ⟨by simp; omega, by rw [z, hw.2.1, List.length_append, List.length_singleton]; omega, ?_⟩ ⟨by rw [z]; exact Nat.le_succ_of_le hS.1, fun q h1 h2 => (o5 q (Nat.lt_of_lt_of_le h1 hS.1)).trans (hS.2.1 q h1 h2), hS.2.2⟩ hL2
  rw [eWl_push o4]
  refine (hw.2.2.kept (fun k q hk => o5 q.1 ((hw.2.2 k q hk).lt))).app (fun k q hk => ?_)
  have hz : k < 1 := (List.getElem?_eq_some_iff.mp hk).1
  rw [show k = 0 by omega] at hk
  cases hk
  rw [← hw.2.1]
  exact hat
theorem eAd_len {g : eGt} {H : Heap} (hw : eWd g h H) : eTr g (.inr h.length) = .ref H.size := by
  rw [eTr_r g (by have := hw.1; omega), eAd_hi g hw.1, hw.2.1]
theorem sNew {idx : Nat} (hf : eSnd f) (hr : xNew f y pc idx ls st h = some (r, h')) (hd : decode (eB y) pc = .ok (.new idx, 3)) : eConc y pc ls st h r h' := by
  unfold xNew at hr
  split at hr
  · next t ht =>
    split at hr
    · next h100 =>
      split at hr
      · next l hl =>
        rcases eNk_spec ht with ⟨-, ⟨C, T, N⟩, hC, hlink⟩ | ⟨z, -⟩ | ⟨z, -⟩
        · refine eStep (eStpPush (fun o1 o2 o3 => ⟨o1, eOkL_cons.mpr ⟨eOkV_r _, o2⟩, (eDv_spec (0, fun _ => 0, (fun _ => 0, fun _ _ => 0), fun _ => 0) hC hl).2.2⟩) ?_) (hf _ _ _ _ _ _ _ hr)
          intro g p l1 e R s m args below meth c o1 o2 o3 o4 CX H locs cells slots LS Qt hW hS hL hc hs kk
          obtain ⟨hx, hb, hml, hown, hts, hin, hfr, hlo, hSt⟩ := CX
          obtain ⟨d1, d2, -⟩ := eDv_spec g hC hl
          obtain ⟨v1, v2, v3⟩ := eV_spec hC
          obtain ⟨⟨ty0, hty0⟩, -⟩ := eV_ty hC
          have hKn := hSt.2.2.2.2.1 t _ hC
          dsimp only at hs kk
          rw [d1] at hs kk
          refine W.newcK hx hb hown (hts _ hlink) (hts _ v2) (hts _ v3) rfl hd hc hs hKn.2.1 rfl fun H1 kC hkC e1 z1 o5 => ?_
          have k2 := kk H1 LS z1 o5 ?_ hL
          · rw [List.map_cons, eAd_len hW] at k2
            exact k2
          · rw [eEn_obj g h100]
            exact ⟨_, hC, (u_born ty0 hts v1 hKn hkC e1 hty0).to (d2 ty0 hty0)⟩
        · omega
        · omega
      · cases hr
    · cases hr
  · cases hr
theorem e_repl {n : Nat} {v : eV} (j : Nat) (d : eV) (hd : d = v) : (List.replicate n v).getD j d = v := by
  rw [List.getD_eq_getElem?_getD, List.getElem?_replicate]
  split
  · rfl
  · exact hd
theorem sNewa {t : Nat} {at_ : ArrayType} (hf : eSnd f) (hr : xNewa f y (pc + 2) t (.inl 0) ls st h = some (r, h')) (hd : decode (eB y) pc = .ok (.newarray at_, 2)) (hat : (t = 100 ∧ at_ = .int) ∨ (t = 101 ∧ at_ = .char)) : eConc y pc ls st h r h' := by
  unfold xNewa at hr
  split at hr
  · next n st =>
    split at hr
    · next hn =>
      refine eStep (eStpPush (fun o1 o2 o3 => ⟨o1, eOkL_cons.mpr ⟨eOkV_r _, (eOkL_cons.mp o2).2⟩, fun v hv => by rw [List.eq_of_mem_replicate hv]; exact eOkV_l ok0⟩) ?_) (hf _ _ _ _ _ _ _ hr)
      intro g p l1 e R s m args below meth c o1 o2 o3 o4 CX H locs cells slots LS Qt hW hS hL hc hs kk
      obtain ⟨hx, hb, hml, hown, hts, hin, hfr, hlo, hSt⟩ := CX
      have on := (eOkL_cons.mp o2).1 n rfl
      have hn0 : ¬ Int32.ofInt n < 0 := fun q => by have := (i32_lt on ok0).mp q; omega
      rw [List.length_replicate] at hs kk
      rcases hat with ⟨rfl, rfl⟩ | ⟨rfl, rfl⟩
      · refine va_newaK (atype := .int) (N := n.toNat) (h := H.size) hx hb (hts _ eOther6) rfl hd rfl hn0 (i32_clamp on) (by show _ * 4 ≤ _; omega) hc hs rfl fun H1 cA e1 z1 o5 hAr hNm => ?_
        have hcA : cA = g.2.2.2 0 := Option.some.inj (hNm.symm.trans (hSt.2.2.2.2.2 0 _ rfl).2)
        subst hcA
        have k2 := kk H1 LS z1 o5 ?_ hL
        · rw [List.map_cons, eAd_len hW] at k2
          exact k2
        · rw [eEn_int]
          show H1[H.size]? = some (vp_cell _ _)
          rw [e1, vp_cell_i, List.length_replicate]
          congr 2
          funext j
          rw [e_repl j _ rfl]
          rfl
      · refine va_newaK (atype := .char) (N := n.toNat) (h := H.size) hx hb (hts _ eOther7) rfl hd rfl hn0 (i32_clamp on) (by show _ * 2 ≤ _; omega) hc hs rfl fun H1 cA e1 z1 o5 hAr hNm => ?_
        have hcA : cA = g.2.2.2 1 := Option.some.inj (hNm.symm.trans (hSt.2.2.2.2.2 1 _ rfl).2)
        subst hcA
        have k2 := kk H1 LS z1 o5 ?_ hL
        · rw [List.map_cons, eAd_len hW] at k2
          exact k2
        · rw [eEn_char]
          show H1[H.size]? = some (vp_cell _ _)
          rw [e1, vp_cell_i, List.length_replicate]
          congr 2
          funext j
          rw [e_repl j _ rfl]
          rfl
    · cases hr
  · cases hr
theorem sAnewa {t idx : Nat} (hf : eSnd f) (hd : decode (eB y) pc = .ok (.anewarray idx, 3)) (ht : eNk (eO y) idx = some t) (h2 : t = 102 ∨ t = 103) (hr : xNewa f y (pc + 3) t (.inr 0) ls st h = some (r, h')) : eConc y pc ls st h r h' := by
  unfold xNewa at hr
  split at hr
  · next n st =>
    split at hr
    · next hn =>
      refine eStep (eStpPush (fun o1 o2 o3 => ⟨o1, eOkL_cons.mpr ⟨eOkV_r _, (eOkL_cons.mp o2).2⟩, fun v hv => by rw [List.eq_of_mem_replicate hv]; exact eOkV_r 0⟩) ?_) (hf _ _ _ _ _ _ _ hr)
      intro g p l1 e R s m args below meth c o1 o2 o3 o4 CX H locs cells slots LS Qt hW hS hL hc hs kk
      obtain ⟨hx, hb, hml, hown, hts, hin, hfr, hlo, hSt⟩ := CX
      have on := (eOkL_cons.mp o2).1 n rfl
      have hn0 : ¬ Int32.ofInt n < 0 := fun q => by have := (i32_lt on ok0).mp q; omega
      rw [List.length_replicate] at hs kk
      have key : ∀ (C : String) (t0 : Nat), Cond.classLink (eR (eO y)) idx C ∈ eWs → va_AO C s → (eTys g)[t0]? = some (g.2.2.2 t0, .object C) → (∀ l : List eV, eEn g (t, l) = .inl (g.2.2.2 t0, l.length, .inr (.inr (.inr (.inr (fun j => eRo g (l.getD j (.inl 0)))))))) →
          W p l1 e R s m args below meth c H locs cells slots Qt (F0 m pc LS (.int (Int32.ofInt n) :: st.map (eTr g))) := by
        intro C t0 hlink hAO hty hen
        refine W.anew hx hb hown (hts _ hlink) (va_AO.use hAO) rfl hd rfl hn0 (by rw [i32_clamp on]; omega) hc (by rw [i32_clamp on]; exact hs) fun cA kA comp f1 f2 f3 f4 => ?_
        rw [i32_clamp on]
        generalize hH1 : H.push ({ cls := cA, slots := Array.replicate n.toNat .null, vm := .none } : Cell) = H1
        have z1 : H1.size = H.size + 1 := by rw [← hH1, Array.size_push]
        have e1 : H1[H.size]? = some (arrV cA n.toNat (fun _ => .null)) := by rw [← hH1, Array.getElem?_push_size, ← arrV_new]
        have o5 : ∀ q : Nat, q < H.size → H1[q]? = H[q]? := fun q hq => by rw [← hH1, Array.getElem?_push, if_neg (Nat.ne_of_lt hq)]
        have hcA : cA = g.2.2.2 t0 := by
          obtain ⟨kA', comp', g1, g2, g3, g4⟩ := (hSt.2.2.2.2.2 t0 _ hty).2
          exact Option.some.inj (f1.symm.trans g4)
        subst hcA
        have k2 := kk H1 LS z1 o5 ?_ hL
        · rw [List.map_cons, eAd_len hW] at k2
          exact k2
        · rw [hen]
          show H1[H.size]? = some (vp_cell _ _)
          rw [e1, vp_cell_q, List.length_replicate]
          congr 2
          funext j
          rw [List.getD_eq_getElem?_getD, List.getElem?_replicate]
          split <;> rfl
      rcases eNk_spec ht with ⟨z, -⟩ | ⟨rfl, hl⟩ | ⟨rfl, hl⟩
      · omega
      · exact key _ 2 hl hSt.2.2.2.1.1 rfl (eEn_lamp g)
      · exact key _ 3 hl hSt.2.2.2.1.2 rfl (eEn_beacon g)
    · cases hr
  · cases hr
end ESTEPS3
end
section
/-! the copy of a row, calls, and the whole -/
theorem e_cpy (l1 l2 : List eV) (sp dp n : Nat) : va_cpy (fun j => Int32.ofInt (eVi (l1.getD j (.inl 0)))) (fun j => Int32.ofInt (eVi (l2.getD j (.inl 0)))) sp dp n = fun j => Int32.ofInt (eVi (if dp ≤ j ∧ j < dp + n then l1.getD (sp + (j - dp)) (.inl 0) else l2.getD j (.inl 0))) := by
  funext j
  dsimp only [va_cpy]
  split <;> rfl
theorem e_arrV {cA : ClassId} {n : Nat} {f1 f2 : Nat → Value} (h : ∀ j, j < n → f1 j = f2 j) : arrV cA n f1 = arrV cA n f2 := by
  unfold arrV
  congr 1
  apply Array.ext
  · simp
  · intro i h1 h2
    simp only [Array.getElem_ofFn]
    exact h i (by simpa using h1)
/-- the copy, out of any int array -/
theorem va_cpy2 {a0 a1 : Nat} {n0 n1 : Nat} {c1 : ClassId} {f0 f1 : Nat → Int32} {cs : Cell} {sp dp n : Nat}
    (hs : cs.slots.size = n0) (hv : ∀ j, j < n0 → cs.slots[j]? = some (.int (f0 j))) (h : sp + n ≤ n0) :
    (arrV c1 n1 (fun j => .int (f1 j))).storeRun dp (cs.stretch sp n) = arrV c1 n1 (fun j => .int (va_cpy f0 f1 sp dp n j)) := by
  have e : cs.stretch sp n = (arrV 0 n0 (fun j => .int (f0 j))).stretch sp n := by
    unfold Cell.stretch
    apply List.map_congr_left
    intro i hi
    have hi' := List.mem_range.mp hi
    rw [Array.getD_eq_getD_getElem?, Array.getD_eq_getD_getElem?, arrV_read _ _ (by omega), hv _ (by omega)]
  rw [e]
  exact va_copied (fun z => .int z) 0 c1 f0 f1 h
section ESTEPS4
variable {f : eK} {y pc k : Nat} {ls st : List eV} {h h' : eH} {r : Option eV}
theorem e_copyW {p : Program} {l : Launch} {e : Env} {R : Room} {s : State} {m : MethodId} {args : Array Value} {below : List Frame} {meth : Method} {c : Code} {H : Heap} {locs : List Loc} {cells slots : Nat} {Q : State → Prop}
    {cc : ByteArray} {LS : Array Slot} {rest : List Value} {g : eGt} (hx : p.tables.exec = Jvm.exec) (hb : c.code = cc) (hml : c.maxLocals = LS.size) {own : String} {index : Nat} (hown : s.vm.findClass own = some m.cls) (hlink : (Cond.methodLink own index arraycopyName).before args s = true) (hnat : (Cond.native arraycopyName).before args s = true) (hstat : (Cond.static arraycopyName).before args s = true) (hini : (Cond.initialized "java/lang/System").before args s = true)
    {ws : va_W} (hK : va_K g.2.2.1 vwCl (eTys g) s) (hP : va_P g.2.2.1 vwCl ws H) (hD : va_D (eAr g) ws) (hS : va_S (eAr g) s.heap H locs) (q1 : Nat) {a0 a1 : Nat} {n0 n1 : Nat} {f0 f1 : Nat → Int32} {cs : Cell}
    (hcs : H[a0]? = some cs) (harr : s.isArrayOf cs .int) (hkn : cs.vm ≠ .unknown) (hsz : cs.slots.size = n0) (hv : ∀ j, j < n0 → cs.slots[j]? = some (.int (f0 j))) (ha1 : ws[q1]? = some (a1, .inl (g.2.2.2 0, n1, .inl f1)))
    {sp dp n : Int32} (h1 : ¬ sp < 0) (h2 : ¬ dp < 0) (h3 : ¬ n < 0) (h4 : sp.toNatClampNeg + n.toNatClampNeg ≤ n0) (h5 : dp.toNatClampNeg + n.toNatClampNeg ≤ n1)
    (hframes : 1 ≤ R.frames) (hlocals : (rest.map fun v => v.category).sum + 18 ≤ R.locals) (hdg : decode cc pc = .ok (.invokestatic index, 3))
    (kk : ∀ (H1 : Heap) (locs1 : List Loc), H1.size = H.size → va_P g.2.2.1 vwCl (ws.set q1 (a1, .inl (g.2.2.2 0, n1, .inl (va_cpy f0 f1 sp.toNatClampNeg dp.toNatClampNeg n.toNatClampNeg)))) H1 → va_S (eAr g) s.heap H1 locs1 → W p l e R s m args below meth c H1 locs1 cells slots Q (F0 m (pc + 3) LS rest)) : W p l e R s m args below meth c H locs cells slots Q (F0 m pc LS (.int n :: .int dp :: .ref a1 :: .int sp :: .ref a0 :: rest)) := by
  have nn : ∀ z : Int32, ¬ z < 0 → z.toInt = (z.toNatClampNeg : Int) := by
    intro z hz
    have hz0 : (0 : Int) ≤ z.toInt := by
      have := Int32.not_lt.mp hz
      simpa using Int32.le_iff_toInt_le.mp this
    show z.toInt = ((z.toInt.toNat : Nat) : Int)
    omega
  intro T hT X
  have hc1 : H[a1]? = some (vp_cell (g.2.2.2 0) (n1, .inl f1)) := hP q1 _ ha1
  obtain ⟨hso, k0, hk0, cm0, hkk0⟩ := harr
  obtain ⟨-, k1, hk1, cm1, hkk1⟩ := (hK.2 0 _ rfl).1 n1 (fun j => .int (f1 j))
  obtain ⟨vm', X', step⟩ := X.arraycopy hx hown hlink hnat hstat hini (src := a0) (dst := a1) (cs := cs) (cd := vp_cell (g.2.2.2 0) (n1, .inl f1)) (srcPos := sp) (destPos := dp) (n := n) (by rw [hT]; exact hcs) (by rw [hT]; exact hc1)
    hso (fun _ h => by cases h) hkn (fun h => by cases h) hk0 hk1 hkk0 hkk1 (show ((refKind .int != refKind .int) || (!refKind .int && (FieldType.int != FieldType.int))) = false by decide) h1 h2 h3
    (by rw [nn sp h1, nn n h3, hsz]; omega)
    (by rw [nn dp h2, nn n h3]; show ¬ _ > ((arrV (g.2.2.2 0) n1 (fun j => .int (f1 j))).slots.size : Int); rw [arrV_size]; omega)
    (fun vm₁ _ i hi => by
      have e1 : cs.slots.getD (sp.toNatClampNeg + i) .null = .int (f0 (sp.toNatClampNeg + i)) := by
        rw [Array.getD_eq_getD_getElem?, hv _ (by omega)]
        rfl
      refine ⟨?_, ?_⟩
      · rw [e1]; rfl
      · rw [e1]; exact trivial)
    (g := F0 m pc LS (.int n :: .int dp :: .ref a1 :: .int sp :: .ref a0 :: rest)) rfl (by rw [hml]) (rest := rest) rfl (by rw [hb]; exact hdg) hframes (by show 2 * 0 + _ + (7 + 11) ≤ _; omega)
  have e1 : copied cs (vp_cell (g.2.2.2 0) (n1, .inl f1)) sp dp n = vp_cell (g.2.2.2 0) (n1, .inl (va_cpy f0 f1 sp.toNatClampNeg dp.toNatClampNeg n.toNatClampNeg)) := va_cpy2 (a0 := a0) (a1 := a1) hsz hv h4
  rw [e1] at X' step
  have hl : a1 < H.size := (Array.getElem?_eq_some_iff.mp hc1).1
  generalize hnew : vp_cell (g.2.2.2 0) (n1, .inl (va_cpy f0 f1 sp.toNatClampNeg dp.toNatClampNeg n.toNatClampNeg)) = newC at X' step
  have hheap : ((T.setVm vm').setCell a1 newC).heap = H.setIfInBounds a1 newC := by rw [← hT]; rfl
  have oq : ∀ q : Nat, q ≠ a1 → (H.setIfInBounds a1 newC)[q]? = H[q]? := fun q hq => by simp [Array.getElem?_setIfInBounds, Ne.symm hq]
  have hA1 : eAr g a1 := hD.2 q1 _ ha1
  obtain ⟨t, b1, b2⟩ := kk (H.setIfInBounds a1 newC) _ (by simp) (hP.set hD ha1 (show (H.setIfInBounds a1 newC)[a1]? = some (vp_cell _ _) by rw [hnew]; simp [Array.getElem?_setIfInBounds, hl]) oq) ⟨by simp; exact hS.1, fun q g1 g2 => by
      rw [oq q (fun e => g2 (by rw [e]; exact hA1))]
      exact hS.2.1 q g1 g2, fun q hq => by
      rcases List.mem_append.mp hq with h | h
      · exact hS.2.2 q h
      · obtain ⟨z, -, hz⟩ := List.mem_map.mp h
        rw [← hz]
        exact hA1⟩ _ hheap X'
  exact ⟨t, step t b1, b2⟩
theorem eCk_copy {o i : Nat} {q : Nat × Nat} (h : eCk o i = some q) : (q.1 = 0 → Cond.methodLink (eR o) i (eY q.2) ∈ eWs ∧ eSt.getD q.2 false = true ∧ q.2 < eMp.length) ∧ (q.1 = 1 → Cond.methodLink (eR o) i (eY q.2) ∈ eWs ∧ eSt.getD q.2 false = false ∧ eI q.2 = false ∧ q.2 < eMp.length) ∧
    (q.1 = 2 → Cond.methodLink (eR o) i (eY q.2) ∈ eWs ∧ eSt.getD q.2 false = false ∧ eI q.2 = true ∧ q.2 < eMp.length) ∧ (q.1 = 3 → (∃ host, Cond.methodLinkNest (eR o) i (eY q.2) host ∈ eNw) ∧ eSt.getD q.2 false = true ∧ q.2 < eMp.length) ∧
    (q.1 = 4 → Cond.methodLink (eR o) i objectInit ∈ eWs) ∧ (q.1 = 5 → Cond.methodLink (eR o) i arraycopyName ∈ eWs) := by
  unfold eCk at h
  obtain ⟨e, he, rfl⟩ := Option.map_eq_some_iff.mp h
  have h1 := List.all_eq_true.mp eCl_ok e (List.mem_of_find?_eq_some he)
  have h2 := List.find?_some he
  simp only [Bool.and_eq_true, beq_iff_eq] at h2
  obtain ⟨h2, h3⟩ := h2
  subst h2; subst h3
  unfold eCchk at h1
  dsimp only
  refine ⟨fun z => ?_, fun z => ?_, fun z => ?_, fun z => ?_, fun z => ?_, fun z => ?_⟩ <;> simp only [z] at h1
  · simp only [if_true, Bool.and_eq_true, decide_eq_true_eq] at h1
    exact ⟨eAt_of h1.1.1, h1.1.2, h1.2⟩
  · simp only [Nat.one_ne_zero, if_false, if_true, Bool.and_eq_true, decide_eq_true_eq, Bool.not_eq_true'] at h1
    exact ⟨eAt_of h1.1.1.1, h1.1.1.2, h1.1.2, h1.2⟩
  · rw [if_neg (by decide), if_neg (by decide), if_pos trivial] at h1
    simp only [Bool.and_eq_true, decide_eq_true_eq, Bool.not_eq_true'] at h1
    exact ⟨eAt_of h1.1.1.1, h1.1.1.2, h1.1.2, h1.2⟩
  · rw [if_neg (by decide), if_neg (by decide), if_neg (by decide), if_pos trivial] at h1
    simp only [Bool.and_eq_true, decide_eq_true_eq] at h1
    obtain ⟨⟨a1, a2⟩, a3⟩ := h1
    refine ⟨?_, a2, a3⟩
    split at a1
    · next a b x host hw =>
      simp only [Bool.and_eq_true, decide_eq_true_eq] at a1
      obtain ⟨⟨rfl, rfl⟩, rfl⟩ := a1
      exact ⟨host, eNw_of hw rfl⟩
    · cases a1
  · rw [if_neg (by decide), if_neg (by decide), if_neg (by decide), if_neg (by decide), if_pos trivial] at h1
    exact eAt_of h1
  · rw [if_neg (by decide), if_neg (by decide), if_neg (by decide), if_neg (by decide), if_neg (by decide), if_pos trivial] at h1
    exact eAt_of h1
theorem xRow_len (l1 l2 : List eV) (sp dp n : Nat) : (xRow l1 l2 sp dp n).length = l2.length := by simp [xRow]
theorem e_xRow (l1 l2 : List eV) (sp : Nat) {dp n : Nat} (hn : dp + n ≤ l2.length) (j : Nat) : (xRow l1 l2 sp dp n).getD j (.inl 0) = if dp ≤ j ∧ j < dp + n then l1.getD (sp + (j - dp)) (.inl 0) else l2.getD j (.inl 0) := by
  unfold xRow
  rw [List.getD_eq_getElem?_getD, List.getElem?_map]
  by_cases hj : j < l2.length
  · rw [List.getElem?_range hj]
    rfl
  · rw [List.getElem?_eq_none (by rw [List.length_range]; omega), if_neg (by omega), List.getD_eq_getElem?_getD, List.getElem?_eq_none (by omega)]
    rfl
theorem sCopy {idx y2 : Nat} (hf : eSnd f) (hq : eCk (eO y) idx = some (5, y2)) (hr : xCopy f y pc ls st h = some (r, h')) (hd : decode (eB y) pc = .ok (.invokestatic idx, 3)) : eConc y pc ls st h r h' := by
  have hlink := (eCk_copy hq).2.2.2.2.2 rfl
  unfold xCopy at hr
  split at hr
  · next n dp d sp sa st =>
    split at hr
    · next cs cd hcs hcd =>
      split at hr
      · next hcond =>
        obtain ⟨t1, t2, hs0, hd8, h1, h2, h3, h4, h5, h6, h7, h9⟩ := hcond
        obtain ⟨ts, l1⟩ := cs
        obtain ⟨td, l2⟩ := cd
        dsimp only at t1 t2 h4 h5 hr
        subst t1; subst t2
        refine eStep (eStpSet hcd (by exact xRow_len _ _ _ _ _) hd8 (fun o1 o2 o3 => ⟨o1, (eOkL_cons.mp (eOkL_cons.mp (eOkL_cons.mp (eOkL_cons.mp (eOkL_cons.mp o2).2).2).2).2).2, ?_⟩) ?_) (hf _ _ _ _ _ _ _ hr)
        · intro v hv
          obtain ⟨j, -, rfl⟩ := List.mem_map.mp hv
          have hg : ∀ (l : List eV) (i : Nat), eOkL l → eOkV (l.getD i (.inl 0)) := by
            intro l i hl
            rw [List.getD_eq_getElem?_getD]
            cases hli : l[i]? with
            | none => exact eOkV_l ok0
            | some v => exact eOkL_get hl hli
          split
          · exact hg _ _ (eOkH_get o3 hcs)
          · exact hg _ _ (eOkH_get o3 hcd)
        intro g p l e R s m args below meth c _ o2 _ C H locs cells slots LS Qt hW hS hL kk
        obtain ⟨hx, hb, hml, hown, hts, hin, hfr, hlo, hSt⟩ := C
        have on := (eOkL_cons.mp o2).1 n rfl
        have odp := (eOkL_cons.mp (eOkL_cons.mp o2).2).1 dp rfl
        have osp := (eOkL_cons.mp (eOkL_cons.mp (eOkL_cons.mp (eOkL_cons.mp o2).2).2).2).1 sp rfl
        have neg : ∀ z : Int, -2147483648 ≤ z ∧ z ≤ 2147483647 → 0 ≤ z → ¬ Int32.ofInt z < 0 := fun z oz h0 q => by have := (i32_lt oz ok0).mp q; omega
        rw [List.map_cons, List.map_cons, List.map_cons, List.map_cons, List.map_cons, eTr_r g (show d ≠ 0 by omega), eTr_r g hs0, eAd_hi g hd8]
        have hget := eWl_get (g := g) hcd hd8
        rw [eEn_int] at hget
        have hsrc : ∃ cs : Cell, H[eAd g sa]? = some cs ∧ s.isArrayOf cs .int ∧ cs.vm ≠ .unknown ∧ cs.slots.size = l1.length ∧ ∀ j, j < l1.length → cs.slots[j]? = some (.int (Int32.ofInt (eVi (l1.getD j (.inl 0))))) := by
          by_cases ha : sa < 8
          · obtain ⟨e1, e2, e3, scr, q1, q2, q3, q4, q5⟩ := hSt.1 sa _ (Nat.pos_of_ne_zero hs0) ha hcs
            rw [eAd_lo g ha]
            exact ⟨scr, by rw [hS.2.1 _ (Nat.lt_of_lt_of_le e2 e3) (Nat.not_le.mpr e2)]; exact q1, q2, q3, q4, q5⟩
          · have hgs := eWl_get (g := g) hcs (Nat.not_lt.mp ha)
            rw [eEn_int] at hgs
            rw [eAd_hi g (Nat.not_lt.mp ha)]
            refine ⟨_, hW.2.2 _ _ hgs, (hSt.2.2.2.2.2 0 _ rfl).1 l1.length (fun j => .int (Int32.ofInt (eVi (l1.getD j (.inl 0))))), (fun q => by cases q), ?_, fun j hj => ?_⟩
            · show (arrV _ _ _).slots.size = _
              rw [arrV_size]
            · show (arrV _ _ _).slots[_]? = _
              rw [arrV_read _ _ hj]
        obtain ⟨cs, g1, g2, g3, g4, g5⟩ := hsrc
        refine e_copyW hx hb (by rw [hml]; exact hL.2.1.symm) hown (hts _ hlink) (hts _ eOther3) (hts _ eOther4) (hts _ eOther5) hSt.2.2.2.2 hW.2.2 eWl_D hS (d - 8) g1 g2 g3 g4 g5 hget (neg sp osp h1) (neg dp odp h2) (neg n on h3)
          (by rw [i32_clamp osp, i32_clamp on]; exact h4) (by rw [i32_clamp odp, i32_clamp on]; exact h5) (by rw [hfr]; exact h7) (by rw [eTr_sum, hlo]; omega) hd fun H1 locs1 z hP1 hS1 => ?_
        refine kk H1 locs1 LS z ?_ hS1 hL
        rw [i32_clamp osp, i32_clamp odp, i32_clamp on, e_cpy] at hP1
        rw [eEn_int, xRow_len]
        simp only [e_xRow l1 l2 sp.toNat h5]
        exact hP1
      · cases hr
    · cases hr
  · cases hr
end ESTEPS4
theorem e_ofW {l : Launch} {y : MethodName} {ws ws' : List Cond} {rm : Room} {Pc : Array Value → State → Prop} {Qc : Array Value → State → Outcome → State → Prop} {mc ms : Nat} {free : Addr → Prop} {cc : ByteArray} {maxL : Nat} {ret : Option FieldType}
    (hy : plainFor y = true) (hw : ws = Cond.code y cc maxL ret :: ws')
    (body : ∀ p e s m args below meth c s₁, BodyLoose p l y (headSpec ws rm) cc maxL ret e s m args below meth c s₁ → c.maxLocals = maxL → Pc args s →
      W p l e (headSpec ws rm).room s m args below meth c s.heap [] 0 0 (MQ below Qc args s mc ms free) (entryFrame m args maxL)) : Met l y ws rm Pc Qc mc ms free := by
  refine MetFree.of_bodySF (code := cc) (maxLocals := maxL) (ret := ret) hy ?_ ?_
  · intro args s m h hn
    obtain ⟨meth, c, h1, h2, h3, h4, h5, h6, -, -⟩ := Cond.code_spec hn (atoms_spec (ws := ws) h _ (by rw [hw]; exact List.mem_cons_self))
    exact ⟨meth, c, h1, h2, h3, h4, h5, h6⟩
  · intro p e s m args below meth c s₁ B hml hP _
    have hh0 : s₁.heap = s.heap := by rw [B.state]; rfl
    obtain ⟨t, a1, o, b1, b2, b3⟩ := body p e s m args below meth c s₁ B hml hP s₁ hh0 (Stand.of_body B)
    exact ⟨t, o, a1, b1, b2, ⟨b3.1, b3.2⟩⟩
def eWy (y : Nat) : List Cond := Cond.code (eY y) (eB y) (eN y) (eT y) :: eWs
theorem eM_spec {y : Nat} (h : y < eMp.length) : (Cond.code (eY y) (eB y) (eN y) (eT y) ∈ eWs) ∧ (if eSt.getD y false = true then Cond.static (eY y) ∈ eWs else Cond.instanceMethod (eY y) ∈ eWs) ∧ (eSt.getD y false = false → eI y = false → Cond.selects (eY y).cls (eY y) (eY y) ∈ eWs) ∧ Cond.initialized (eY y).cls ∈ eWs ∧
    ((parseMethodDescriptor (eY y).desc).map (fun d => d.parameters.length) = some (eA y)) ∧ plainFor (eY y) = true ∧ ((eY y).cls ≠ "java/lang/invoke/MethodHandle" ∧ (eY y).cls ≠ "java/lang/invoke/VarHandle") ∧ eR (eO y) = (eY y).cls ∧ (eI y = true → (eY y).name = "<init>") ∧ (eI y = true → eT y = none) := by
  have h1 := List.all_eq_true.mp eM_ok y (List.mem_range.mpr h)
  unfold eMchk at h1
  split at h1
  · next q hq =>
    simp only [Bool.and_eq_true, decide_eq_true_eq, Bool.or_eq_true] at h1
    obtain ⟨⟨⟨⟨⟨⟨⟨⟨⟨a1, a2⟩, a3⟩, a4⟩, a5⟩, a6⟩, a7⟩, a8⟩, a9⟩, a10⟩ := h1
    refine ⟨eMc_of h, ?_, ?_, eAt_of a3, a4, a5, ⟨a6, a7⟩, a8, a9, a10⟩
    · have := eAt_of a1
      split at this
      · next z => rw [if_pos z]; exact this
      · next z => rw [if_neg z]; exact this
    · intro z1 z2
      rcases a2 with (z | z) | z
      · rw [z1] at z; cases z
      · rw [z2] at z; cases z
      · exact eAt_of z
  · cases h1
section ECALL
variable {f : eK} {y pc k : Nat} {ls st : List eV} {h h' : eH} {r : Option eV}
/-- THE CONTRACT that a run of the evaluator gives -/
theorem eMet (hf : eSnd f) {y : Nat} (hy : y < eMp.length) {vs : List eV} (hr : f y 0 (eLoc y vs) [] h = some (r, h')) (hv : vs.length ≤ eN y) (o1 : eOkL vs) (o3 : eOkH h) (o4 : 8 ≤ h.length) (g : eGt) (l : Launch) :
    Met l (eY y) (eWy y) ({ frames := eF y, cells := h'.length - h.length, slots := eSz h' - eSz h, locals := eL y } : Room) (ePc g h vs) (eQc g r h') (h'.length - h.length) (eSz h' - eSz h) (eAr g) := by
  obtain ⟨m1, m2, m3, m4, m5, m6, m7, m8, m9, m10⟩ := eM_spec hy
  refine e_ofW (cc := eB y) (maxL := eN y) (ret := eT y) m6 rfl ?_
  intro p e s m args below meth c s₁ B hml hv0
  obtain ⟨rfl, hWd, hSt⟩ := hv0
  have hts := atoms_spec (ws := eWy y) B.pre
  have hown : s.vm.findClass (eR (eO y)) = some m.cls := by rw [m8]; exact findClass_of_methodNamed B.named
  have hnm := (name_of_methodNamed B.named B.method).1
  have hlocks := B.notSynchronized
  have hret := B.returns
  rw [lg_entry_eq]
  have C : eCx g y h p (headSpec (eWy y) ({ frames := eF y, cells := h'.length - h.length, slots := eSz h' - eSz h, locals := eL y } : Room)).room s m (vs.map (eTr g)).toArray meth c :=
    ⟨B.exec, B.bytes, hml, hown, fun w hw => hts w (List.mem_cons_of_mem _ hw), fun hi => hnm.trans (m9 hi), rfl, rfl, hSt⟩
  have okl : eOkL (eLoc y vs) := eOkL_app.mpr ⟨o1, fun v hv => by rw [List.eq_of_mem_replicate hv]; exact eOkV_r 0⟩
  refine (hf y 0 (eLoc y vs) [] h r h' hr okl eOkL_nil o3 o4).2.2.2 g p l e _ s m _ below meth c C s.heap [] 0 0 _ _ hWd va_S.rf (eLr_entry hv) (by rw [Nat.zero_add]; exact Nat.le_refl _) (by rw [Nat.zero_add]; exact Nat.le_refl _) ?_
  intro H' locs' LS' pc' stv k1 k2 k3
  rw [Nat.zero_add, Nat.zero_add]
  rcases k3 with ⟨rfl, rfl, hd, ht⟩ | ⟨x, rfl, rfl, hd, ty, ht, hn⟩ | ⟨a, rfl, ha, rfl, hd, n, ht⟩
  · exact W.vret B.exec B.bytes (by rw [hret]; exact ht) (fun t ht2 _ => ⟨rfl, by rw [ht2]; exact k1, k2.F ht2⟩) k2.2.2 hd hlocks
  · exact W.zret B.exec B.bytes (by rw [hret]; exact ht) hn (fun t ht2 _ => ⟨rfl, by rw [ht2]; exact k1, k2.F ht2⟩) k2.2.2 hd hlocks
  · exact W.aret B.exec B.bytes (by rw [hret]; exact ht) (Or.inl ⟨n, rfl⟩) (Or.inr ⟨_, rfl⟩) (fun t ht2 _ => ⟨by rw [Option.map_some, eTr_r g ha], by rw [ht2]; exact k1, k2.F ht2⟩) k2.2.2 hd hlocks
theorem e_call {p : Program} {l : Launch} {e : Env} {R : Room} {s : State} {m : MethodId} {args : Array Value} {below : List Frame} {meth : Method} {c : Code} {H H0 : Heap} {locs : List Loc} {cells slots mc ms pc : Nat} {Q : State → Prop} {LS : Array Slot} {st0 rest : List Value} {g : eGt} {a : Array Value}
    (hr : va_Run p l e R s m args below meth c H locs cells slots mc ms (F0 m pc LS st0) rest (eQc g r h' a) (eAr g)) (hS : va_S (eAr g) H0 H locs)
    (kk : ∀ (H1 : Heap) (locs1 : List Loc), eWd g h' H1 → va_S (eAr g) H0 H1 locs1 → W p l e R s m args below meth c H1 locs1 (cells + mc) (slots + ms) Q (F0 m (pc + 3) LS ((r.map (eTr g)).toList ++ rest))) : W p l e R s m args below meth c H locs cells slots Q (F0 m pc LS st0) := by
  intro T hT X
  obtain ⟨v, st₀, t, T', L, h0, X', hL, e1, e2, ⟨hv, hb, hz, hk⟩, stp⟩ := hr T hT X
  cases hv
  rw [h0] at hz hk
  obtain ⟨t2, a1, b1⟩ := kk T'.heap (locs ++ L) (by rw [e1]; exact hb)
    ⟨Nat.le_trans hS.1 (by rw [e1]; exact hz), fun q h1 h2 => by rw [e1, hk q (Nat.lt_of_lt_of_le h1 hS.1) h2]; exact hS.2.1 q h1 h2, fun q hq => by
      rcases List.mem_append.mp hq with h | h
      · exact hS.2.2 q h
      · exact hL q h⟩ T' rfl X'
  exact ⟨t2, stp t2 a1, b1⟩
theorem e_pay {y2 : Nat} {s : State} {args : Array Value} (hts : ∀ w ∈ eWs, w.before args s = true) (hy : y2 < eMp.length) : ∀ w ∈ eWy y2, ∀ (a' : Array Value) (U : State), s.WarmedH U.vm → w.before a' U = true := by
  intro w hw a' U hW
  have hw2 : w ∈ eWs := by
    rcases List.mem_cons.mp hw with h | h
    · rw [h]; exact (eM_spec hy).1
    · exact h
  exact word_at hW (good_of_word (eWs_good hw2)) (hts w hw2)
theorem e_sig {y2 : Nat} (hy : y2 < eMp.length) : ∀ sig, parseMethodDescriptor (eY y2).desc = some sig → eA y2 = sig.parameters.length := by
  intro sig h
  have := (eM_spec hy).2.2.2.2.1
  rw [h] at this
  exact (Option.some.inj this).symm
theorem e_pre {g : eGt} {s : State} {H : Heap} {locs : List Loc} (vs : List eV) (hW : eWd g h H) (hS : va_S (eAr g) s.heap H locs) (hSt : eS g h s) : PreS s H (ePc g h vs) (vs.map (eTr g)) :=
  ⟨ePc_blind, fun U hU hWm => ⟨rfl, by rw [hU]; exact hW, hSt.moved (locs := locs) hWm.alike (eNw_warm hWm hSt.2.2.1) (by rw [hU]; exact hS)⟩⟩
/-- a call, whatever its kind: what the kind's own row of the kit gives is 'hcall' -/
theorem sRun {y2 : Nat} {vs st2 : List eV} (hf : eSnd f) (hy : y2 < eMp.length) (hr : xRun f y pc y2 vs ls st2 h = some (r, h')) (hok : eOkL st → eOkL vs ∧ eOkL st2)
    (hcall : ∀ (r1 : Option eV) (h1 : eH) (g : eGt) (p : Program) (l : Launch) (e : Env) (R : Room) (s : State) (m : MethodId) (args : Array Value) (below : List Frame) (meth : Method) (c : Code),
      eCx g y h p R s m args meth c → ∀ (H : Heap) (locs : List Loc) (cells slots : Nat) (LS : Array Slot), eWd g h H → va_S (eAr g) s.heap H locs → eLr g y ls LS → cells + (h1.length - h.length) ≤ R.cells → slots + (eSz h1 - eSz h) ≤ R.slots → eF y2 + 1 ≤ R.frames → 8 + (eN y2 + 11) + eL y2 ≤ R.locals → st2.length ≤ 8 →
      Met l (eY y2) (eWy y2) ({ frames := eF y2, cells := h1.length - h.length, slots := eSz h1 - eSz h, locals := eL y2 } : Room) (ePc g h vs) (eQc g r1 h1) (h1.length - h.length) (eSz h1 - eSz h) (eAr g) →
      ∃ a : Array Value, va_Run p l e R s m args below meth c H locs cells slots (h1.length - h.length) (eSz h1 - eSz h) (F0 m pc LS (st.map (eTr g))) (st2.map (eTr g)) (eQc g r1 h1 a) (eAr g)) : eConc y pc ls st h r h' := by
  unfold xRun at hr
  split at hr
  · next hcond =>
    obtain ⟨hroom, hlen, hst⟩ := hcond
    split at hr
    · next q hq =>
      obtain ⟨r1, h1⟩ := q
      dsimp only at hr
      refine eStep ?_ (hf _ _ _ _ _ _ _ hr)
      intro o1 o2 o3 o4
      obtain ⟨p1, p2⟩ := hok o2
      have okl : eOkL (eLoc y2 vs) := eOkL_app.mpr ⟨p1, fun v hv => by rw [List.eq_of_mem_replicate hv]; exact eOkV_r 0⟩
      obtain ⟨c1, c2, c3, -⟩ := hf y2 0 (eLoc y2 vs) [] h r1 h1 hq okl eOkL_nil o3 o4
      refine ⟨⟨o1, eOkL_app.mpr ⟨?_, p2⟩, c2, c3⟩, ?_⟩
      · intro v hv
        cases r1 with
        | none => cases hv
        | some w => rw [Option.toList_some, List.mem_singleton] at hv; rw [hv]; exact c1 w rfl
      intro g p l e R s m args below meth c C H locs cells slots LS Qt hW hS hL hc hs kk
      simp only [eRoom, Bool.and_eq_true, decide_eq_true_eq] at hroom
      obtain ⟨a, hrun⟩ := hcall r1 h1 g p l e R s m args below meth c C H locs cells slots LS hW hS hL hc hs (by rw [C.2.2.2.2.2.2.1]; exact hroom.1) (by rw [C.2.2.2.2.2.2.2.1]; exact hroom.2) hst (eMet hf hy hq hlen p1 o3 o4 g l)
      refine e_call hrun hS fun H1 locs1 hW1 hS1 => ?_
      have := kk H1 locs1 LS hW1 hS1 hL
      cases r1 <;> exact this
    · cases hr
  · cases hr
end ECALL
end
section
/-! calls by their kinds; every instruction; every run -/
def eOvchk (y : Nat) : Bool := decide (eO y < 13) && (eSt.getD y false || eI y || (vwCl[eG (eO y)]?).isSome)
set_option maxRecDepth 100000 in
theorem eOv_ok : (List.range eMp.length).all eOvchk = true := by decide +kernel
theorem e_div {a b : Int} (ha : -2147483648 ≤ a ∧ a ≤ 2147483647) (hb : -2147483648 ≤ b ∧ b ≤ 2147483647) : Int32.ofInt (a.tdiv b) = Int32.ofInt a / Int32.ofInt b := by
  rw [← Int32.ofInt_toInt (Int32.ofInt a / Int32.ofInt b), Int32.toInt_div, show (Int32.ofInt a).toInt = a from w32_of ha.1 ha.2, show (Int32.ofInt b).toInt = b from w32_of hb.1 hb.2]
  apply Int32.toInt_inj.mp
  simp
theorem e_rem {a b : Int} (ha : -2147483648 ≤ a ∧ a ≤ 2147483647) (hb : -2147483648 ≤ b ∧ b ≤ 2147483647) : Int32.ofInt (a.tmod b) = Int32.ofInt a - Int32.ofInt a / Int32.ofInt b * Int32.ofInt b := by
  rw [← Int32.ofInt_toInt (Int32.ofInt a - Int32.ofInt a / Int32.ofInt b * Int32.ofInt b), rem_toInt, show (Int32.ofInt a).toInt = a from w32_of ha.1 ha.2, show (Int32.ofInt b).toInt = b from w32_of hb.1 hb.2]
section EALL
variable {f : eK} {y pc k : Nat} {ls st : List eV} {h h' : eH} {r : Option eV}
theorem e_split {n : Nat} (g : eGt) (st : List eV) : st.map (eTr g) = ((st.take n).reverse.map (eTr g)).reverse ++ (st.drop n).map (eTr g) := by
  rw [List.map_reverse, List.reverse_reverse, ← List.map_append, List.take_append_drop]
theorem sCallS {idx : Nat} (hf : eSnd f) (hd : decode (eB y) pc = .ok (.invokestatic idx, 3)) (hr : xCall f 0 y pc idx ls st h = some (r, h')) : eConc y pc ls st h r h' := by
  unfold xCall at hr
  split at hr
  · next q hq =>
    rw [if_pos rfl] at hr
    split at hr
    · next hcond =>
      obtain ⟨hk, hn⟩ := hcond
      have hy2 : q.2 < eMp.length := by
        rcases hk with z | z
        · exact ((eCk_copy hq).1 z).2.2
        · exact ((eCk_copy hq).2.2.2.1 z).2.2
      refine sRun hf hy2 hr (fun o2 => ?_) ?_
      · have : eOkL (st.take (eA q.2)) ∧ eOkL (st.drop (eA q.2)) := eOkL_app.mp (by rw [List.take_append_drop]; exact o2)
        exact ⟨fun v hv => this.1 v (List.mem_reverse.mp hv), this.2⟩
      intro r1 h1 g p l e R s m args below meth c C H locs cells slots LS hW hS hL hc hs hfr hlo hst hM
      obtain ⟨hx, hb, hml, hown, hts, hin, -, -, hSt⟩ := C
      obtain ⟨m1, m2, m3, m4, m5, m6, m7, m8, m9, m10⟩ := eM_spec hy2
      have hlen : ((st.take (eA q.2)).reverse.map (eTr g)).length = eA q.2 := by simp; omega
      have hroom : 2 * (F0 m pc LS (st.map (eTr g))).monitorRoom + (((st.drop (eA q.2)).map (eTr g)).map fun v => v.category).sum ≤ 8 := lv_room (by rw [eTr_sum]; exact hst)
      rcases hk with z | z
      · obtain ⟨w1, w2, -⟩ := (eCk_copy hq).1 z
        rw [if_pos w2] at m2
        exact ⟨_, va_runS (cc := eB y) (nL := eN y) (As := (st.take (eA q.2)).reverse.map (eTr g)) (rest := (st.drop (eA q.2)).map (eTr g)) (Ts := eWs) (own := eR (eO y)) (n := eA q.2) (bytes := eB q.2) (maxL := eN q.2) (ret := eT q.2) ⟨hx, hb, hml, hown, hts⟩ hM
          ⟨⟨rfl, rfl, hfr, hlo, e_pay hts hy2, List.mem_cons_self, hts _ m1, hts _ m4, m7, e_sig hy2, hts _ w1⟩, hts _ m2⟩ (e_pre _ hW hS hSt) rfl hlen hL.2.1 (e_split g st) hroom hd ⟨hc, hs⟩⟩
      · obtain ⟨⟨host, w1⟩, w2, -⟩ := (eCk_copy hq).2.2.2.1 z
        rw [if_pos w2] at m2
        exact ⟨_, va_runSN (cc := eB y) (nL := eN y) (As := (st.take (eA q.2)).reverse.map (eTr g)) (rest := (st.drop (eA q.2)).map (eTr g)) (Ts := eWs) (own := eR (eO y)) (n := eA q.2) (bytes := eB q.2) (maxL := eN q.2) (ret := eT q.2) (host := host) ⟨hx, hb, hml, hown, hts⟩ hM
          ⟨⟨⟨rfl, rfl, hfr, hlo, e_pay hts hy2, List.mem_cons_self⟩, hts _ m1, hts _ m4, m7, e_sig hy2, va_Nw.use rfl (hSt.2.2.1 _ w1)⟩, hts _ m2, trivial⟩ (e_pre _ hW hS hSt) rfl hlen hL.2.1 (e_split g st) hroom hd ⟨hc, hs⟩⟩
    · split at hr
      · next z =>
        obtain ⟨q1, q2⟩ := q
        dsimp only at z
        subst z
        exact sCopy hf hq hr hd
      · cases hr
  · cases hr
theorem sCallV {idx : Nat} (hf : eSnd f) (hd : decode (eB y) pc = .ok (.invokevirtual idx, 3)) (hr : xCall f 1 y pc idx ls st h = some (r, h')) : eConc y pc ls st h r h' := by
  unfold xCall at hr
  split at hr
  · next q hq =>
    rw [if_neg (by decide), if_pos rfl] at hr
    split at hr
    · next hcond =>
      obtain ⟨z, hn⟩ := hcond
      obtain ⟨w1, w2, w3, hy2⟩ := (eCk_copy hq).2.1 z
      split at hr
      · next b rest hb0 =>
        split at hr
        · next cb hcb =>
          split at hr
          · next hcl =>
            obtain ⟨hcl, hb8⟩ := hcl
            have hste : ∀ g : eGt, st.map (eTr g) = ((st.take (eA q.2)).reverse.map (eTr g)).reverse ++ .ref (eAd g b) :: rest.map (eTr g) := by
              intro g
              rw [e_split (n := eA q.2) g st, hb0, List.map_cons, eTr_r g (show b ≠ 0 by omega)]
            refine sRun hf hy2 hr (fun o2 => ?_) ?_
            · have h2 : eOkL (st.take (eA q.2)) ∧ eOkL (st.drop (eA q.2)) := eOkL_app.mp (by rw [List.take_append_drop]; exact o2)
              rw [hb0] at h2
              exact ⟨eOkL_cons.mpr ⟨eOkV_r b, fun v hv => h2.1 v (List.mem_reverse.mp hv)⟩, (eOkL_cons.mp h2.2).2⟩
            intro r1 h1 g p l e R s m args below meth c C H locs cells slots LS hW hS hL hc hs hfr hlo hst hM
            obtain ⟨hx, hb, hml, hown, hts, hin, -, -, hSt⟩ := C
            obtain ⟨m1, m2, m3, m4, m5, m6, m7, m8, m9, m10⟩ := eM_spec hy2
            rw [w2] at m2
            rw [if_neg (by decide)] at m2
            have hlen : ((st.take (eA q.2)).reverse.map (eTr g)).length = eA q.2 := by simp; omega
            have hroom : 2 * (F0 m pc LS (st.map (eTr g))).monitorRoom + ((rest.map (eTr g)).map fun v => v.category).sum ≤ 8 := lv_room (by rw [eTr_sum]; exact hst)
            have hpre := e_pre (Sum.inr b :: (st.take (eA q.2)).reverse) hW hS hSt
            rw [List.map_cons, eTr_r g (show b ≠ 0 by omega)] at hpre
            have hget := eWl_get (g := g) hcb hb8
            have hcls : ∃ cellB : Cell, H[eAd g b]? = some cellB ∧ cellB.vm.isStatics = false ∧ s.vm.findClass (eY q.2).cls = some cellB.cls := by
              cases hvw : vwCl[cb.1]? with
              | none =>
                exfalso
                have hov := List.all_eq_true.mp eOv_ok (q.2) (List.mem_range.mpr hy2)
                unfold eOvchk at hov
                rw [w2, w3, ← hcl, hvw] at hov
                simp at hov
              | some qq =>
                have ht : cb.1 < 100 := Nat.lt_trans (List.getElem?_eq_some_iff.mp hvw).1 (by decide)
                obtain ⟨t, lc⟩ := cb
                rw [eEn_obj g ht] at hget
                obtain ⟨cell, g1, g2, g3⟩ := va_recv hSt.2.2.2.2 hW.2.2 hvw hget
                have ho : eO q.2 < 13 ∧ True := ⟨by
                  have hov := List.all_eq_true.mp eOv_ok (q.2) (List.mem_range.mpr hy2)
                  unfold eOvchk at hov
                  simp only [Bool.and_eq_true, decide_eq_true_eq] at hov
                  exact hov.1, trivial⟩
                have hoo := List.all_eq_true.mp eO_ok (eO q.2) (List.mem_range.mpr ho.1)
                unfold eOchk at hoo
                dsimp only at hcl hvw
                rw [← hcl, hvw] at hoo
                simp only [decide_eq_true_eq] at hoo
                rw [eAd_hi g hb8]
                exact ⟨cell, g1, g2, by rw [← m8, ← hoo]; exact g3⟩
            exact ⟨_, va_runV (cc := eB y) (nL := eN y) (C := (eY q.2).cls) (b := eAd g b) (As := (st.take (eA q.2)).reverse.map (eTr g)) (rest := rest.map (eTr g)) (Ts := eWs) (own := eR (eO y)) (n := eA q.2) (bytes := eB q.2) (maxL := eN q.2) (ret := eT q.2) ⟨hx, hb, hml, hown, hts⟩ hM
              ⟨⟨rfl, rfl, hfr, hlo, e_pay hts hy2, List.mem_cons_self, hts _ m1, hts _ m4, m7, e_sig hy2, hts _ w1⟩, hts _ m2, hts _ (m3 w2 w3)⟩ ⟨hpre.1, hcls, hpre.2⟩ rfl hlen hL.2.1 (hste g) hroom hd ⟨hc, hs⟩⟩
          · cases hr
        · cases hr
      · cases hr
    · cases hr
  · cases hr
theorem sCallI {idx : Nat} (hf : eSnd f) (hd : decode (eB y) pc = .ok (.invokespecial idx, 3)) (hr : xCall f 2 y pc idx ls st h = some (r, h')) : eConc y pc ls st h r h' := by
  unfold xCall at hr
  split at hr
  · next q hq =>
    rw [if_neg (by decide), if_neg (by decide)] at hr
    split at hr
    · next hcond =>
      obtain ⟨z, hn⟩ := hcond
      obtain ⟨w1, w2, w3, hy2⟩ := (eCk_copy hq).2.2.1 z
      split at hr
      · next b rest hb0 =>
        split at hr
        · next hb8 =>
          have hste : ∀ g : eGt, st.map (eTr g) = ((st.take (eA q.2)).reverse.map (eTr g)).reverse ++ .ref (eAd g b) :: rest.map (eTr g) := by
            intro g
            rw [e_split (n := eA q.2) g st, hb0, List.map_cons, eTr_r g (show b ≠ 0 by omega)]
          refine sRun hf hy2 hr (fun o2 => ?_) ?_
          · have h2 : eOkL (st.take (eA q.2)) ∧ eOkL (st.drop (eA q.2)) := eOkL_app.mp (by rw [List.take_append_drop]; exact o2)
            rw [hb0] at h2
            exact ⟨eOkL_cons.mpr ⟨eOkV_r b, fun v hv => h2.1 v (List.mem_reverse.mp hv)⟩, (eOkL_cons.mp h2.2).2⟩
          intro r1 h1 g p l e R s m args below meth c C H locs cells slots LS hW hS hL hc hs hfr hlo hst hM
          obtain ⟨hx, hb, hml, hown, hts, hin, -, -, hSt⟩ := C
          obtain ⟨m1, m2, m3, m4, m5, m6, m7, m8, m9, m10⟩ := eM_spec hy2
          rw [w2] at m2
          rw [if_neg (by decide)] at m2
          have hlen : ((st.take (eA q.2)).reverse.map (eTr g)).length = eA q.2 := by simp; omega
          have hroom : 2 * (F0 m pc LS (st.map (eTr g))).monitorRoom + ((rest.map (eTr g)).map fun v => v.category).sum ≤ 8 := lv_room (by rw [eTr_sum]; exact hst)
          have hpre := e_pre (Sum.inr b :: (st.take (eA q.2)).reverse) hW hS hSt
          rw [List.map_cons, eTr_r g (show b ≠ 0 by omega)] at hpre
          have hret := m10 w3
          have hpay := e_pay hts hy2
          have hcd := hts _ m1
          unfold eWy at hM hpay
          rw [hret] at hM hcd hpay
          exact ⟨_, va_runI (cc := eB y) (nL := eN y) (b := eAd g b) (As := (st.take (eA q.2)).reverse.map (eTr g)) (rest := rest.map (eTr g)) (Ts := eWs) (own := eR (eO y)) (n := eA q.2) (bytes := eB q.2) (maxL := eN q.2) ⟨hx, hb, hml, hown, hts⟩ hM
            ⟨⟨rfl, rfl, hfr, hlo, hpay, List.mem_cons_self, hcd, hts _ m4, m7, e_sig hy2, hts _ w1⟩, m9 w3, hts _ m2⟩ hpre rfl hlen hL.2.1 (hste g) hroom hd ⟨hc, hs⟩⟩
        · cases hr
      · cases hr
    · split at hr
      · next z =>
        have w1 := (eCk_copy hq).2.2.2.2.1 z
        cases st with
        | nil => cases hr
        | cons v rest =>
        cases v with
        | inl x => cases hr
        | inr b =>
          dsimp only at hr
          split at hr
          · next hcond2 =>
            obtain ⟨hb8, hst8, hfr1, hlo1⟩ := hcond2
            refine eStep (eStp0 (fun o1 o2 _ => ⟨o1, (eOkL_cons.mp o2).2⟩) ?_) (hf _ _ _ _ _ _ _ hr)
            intro g p l e R s m args below meth c _ o2 _ C H locs cells slots LS Qt hW hS hL kk
            obtain ⟨hx, hb, hml, hown, hts, hin, hfr, hlo, hSt⟩ := C
            rw [List.map_cons, eTr_r g (show b ≠ 0 by omega)]
            refine W.objInit hx hb hown (hts _ w1) (hts _ eOther1) (hts _ eOther2) rfl (by show LS.size = _; rw [hml]; exact hL.2.1) rfl hd (by rw [hfr]; exact hfr1) (by rw [hlo]; show 2 * 0 + _ + 12 ≤ _; rw [eTr_sum]; omega) ?_
            exact kk LS hL
          · cases hr
      · cases hr
  · cases hr
theorem sRetI (hd : decode (eB y) pc = .ok (.ireturn, 1)) (hr : (match st with
    | [.inl x] => if eRetI y x = true then some (some (.inl x), h) else none
    | _ => none) = some (r, h')) : eConc y pc ls st h r h' := by
  split at hr
  · next x =>
    split at hr
    · next hc =>
      cases hr
      intro o1 o2 o3 o4
      refine ⟨fun v hv => by cases hv; exact (eOkL_cons.mp o2).1, o3, eGr.refl, ?_⟩
      intro g p l e R s m args below meth c C H locs cells slots LS Qt hW hS hL _ _ hend
      have := hend H locs LS pc [.int (Int32.ofInt x)] hW hS (Or.inr (Or.inl ⟨x, rfl, rfl, hd, ?_⟩))
      · rw [Nat.sub_self, Nat.sub_self, Nat.add_zero, Nat.add_zero] at this
        exact this
      · simp only [eRetI, Bool.or_eq_true, Bool.and_eq_true, decide_eq_true_eq, beq_iff_eq] at hc
        rcases hc with hc | ⟨hc, rfl | rfl⟩
        · exact ⟨_, hc, rfl⟩
        · exact ⟨_, hc, by decide +kernel⟩
        · exact ⟨_, hc, by decide +kernel⟩
    · cases hr
  · cases hr
theorem sRetA (hd : decode (eB y) pc = .ok (.areturn, 1)) (hr : (match st with
    | [.inr a] => if eRetR y = true ∧ a ≠ 0 then some (some (.inr a), h) else none
    | _ => none) = some (r, h')) : eConc y pc ls st h r h' := by
  split at hr
  · next a =>
    split at hr
    · next hc =>
      cases hr
      intro o1 o2 o3 o4
      refine ⟨fun v hv => by cases hv; exact (eOkL_cons.mp o2).1, o3, eGr.refl, ?_⟩
      intro g p l e R s m args below meth c C H locs cells slots LS Qt hW hS hL _ _ hend
      have := hend H locs LS pc [.ref (eAd g a)] hW hS (Or.inr (Or.inr ⟨a, rfl, hc.2, rfl, hd, ?_⟩))
      · rw [Nat.sub_self, Nat.sub_self, Nat.add_zero, Nat.add_zero] at this
        rw [List.map_cons, eTr_r g hc.2]
        exact this
      · have := hc.1
        unfold eRetR at this
        split at this
        · next n hn => exact ⟨_, hn⟩
        · cases this
    · cases hr
  · cases hr
theorem sRetV (hd : decode (eB y) pc = .ok (.return_, 1)) (ht : eT y = none) (hst : st = []) (hr : some ((none : Option eV), h) = some (r, h')) : eConc y pc ls st h r h' := by
  cases hr
  subst hst
  intro o1 o2 o3 o4
  refine ⟨fun v hv => (by cases hv), o3, eGr.refl, ?_⟩
  intro g p l e R s m args below meth c C H locs cells slots LS Qt hW hS hL _ _ hend
  have := hend H locs LS pc [] hW hS (Or.inl ⟨rfl, rfl, hd, ht⟩)
  rw [Nat.sub_self, Nat.sub_self, Nat.add_zero, Nat.add_zero] at this
  exact this
theorem i32_op {op : Int → Int → Int} (h : ∀ a b, ∃ z, op a b = w32 z) : ∀ a b, -2147483648 ≤ op a b ∧ op a b ≤ 2147483647 := fun a b => by
  obtain ⟨z, hz⟩ := h a b
  rw [hz]
  exact w32_ok z
/-- EVERY INSTRUCTION -/
theorem exI_snd (hf : eSnd f) {i : Instr} {len : Nat} (hd : decode (eB y) pc = .ok (i, len)) (hr : exI f y pc i len ls st h = some (r, h')) : eConc y pc ls st h r h' := by
  cases i
  case aload k =>
    simp only [exI] at hr; split at hr
    · next z => subst z; exact sAld hf hr (Or.inl ⟨hd, rfl⟩)
    · cases hr
  case aload_n k =>
    simp only [exI] at hr; split at hr
    · next z => subst z; exact sAld hf hr (Or.inr ⟨k, rfl, hd, rfl⟩)
    · cases hr
  case iload k =>
    simp only [exI] at hr; split at hr
    · next z => subst z; exact sIld hf hr (Or.inl ⟨hd, rfl⟩)
    · cases hr
  case iload_n k =>
    simp only [exI] at hr; split at hr
    · next z => subst z; exact sIld hf hr (Or.inr ⟨k, rfl, hd, rfl⟩)
    · cases hr
  case astore k =>
    simp only [exI] at hr; split at hr
    · next z => subst z; exact sAst hf hr (Or.inl ⟨hd, rfl⟩)
    · cases hr
  case astore_n k =>
    simp only [exI] at hr; split at hr
    · next z => subst z; exact sAst hf hr (Or.inr ⟨k, rfl, hd, rfl⟩)
    · cases hr
  case istore k =>
    simp only [exI] at hr; split at hr
    · next z => subst z; exact sIst hf hr (Or.inl ⟨hd, rfl⟩)
    · cases hr
  case istore_n k =>
    simp only [exI] at hr; split at hr
    · next z => subst z; exact sIst hf hr (Or.inr ⟨k, rfl, hd, rfl⟩)
    · cases hr
  case iconst n =>
    simp only [exI] at hr; split at hr
    · next z =>
      obtain ⟨rfl, z2⟩ := z
      exact sConst hf hr z2 (fun g p l e R s m args below meth c H locs cells slots LS Qt rest C k => lv_iconst C.1 C.2.1 hd rfl k)
    · cases hr
  case bipush n =>
    simp only [exI] at hr; split at hr
    · next z =>
      obtain ⟨rfl, z1, z2⟩ := z
      exact sConst hf hr z2 (fun g p l e R s m args below meth c H locs cells slots LS Qt rest C k => lv_bipush C.1 C.2.1 hd z1 k)
    · cases hr
  case sipush n =>
    simp only [exI] at hr; split at hr
    · next z =>
      obtain ⟨rfl, z1, z2⟩ := z
      exact sConst hf hr z2 (fun g p l e R s m args below meth c H locs cells slots LS Qt rest C k => lv_sipush C.1 C.2.1 hd z1 k)
    · cases hr
  case ldc n =>
    simp only [exI] at hr; split at hr
    · next z =>
      subst z
      split at hr
      · next v hv =>
        obtain ⟨k1, k2⟩ := eKk_spec hv
        exact sConst hf hr k2 (fun g p l e R s m args below meth c H locs cells slots LS Qt rest C k => lv_ldc C.1 C.2.1 C.2.2.2.1 (C.2.2.2.2.1 _ k1) hd k)
      · cases hr
    · cases hr
  case iadd =>
    simp only [exI] at hr; split at hr
    · next z =>
      subst z
      exact sBin hf hr (fun a b => w32_ok _) (fun g p l e R s m args below meth c H locs cells slots LS Qt rest a b C _ _ k => lv_iadd C.1 C.2.1 hd (by rw [w32_i, Int32.ofInt_add] at k; exact k))
    · cases hr
  case isub =>
    simp only [exI] at hr; split at hr
    · next z =>
      subst z
      exact sBin hf hr (fun a b => w32_ok _) (fun g p l e R s m args below meth c H locs cells slots LS Qt rest a b C _ _ k => lv_isub C.1 C.2.1 hd (by rw [w32_i, Int32.ofInt_sub] at k; exact k))
    · cases hr
  case imul =>
    simp only [exI] at hr; split at hr
    · next z =>
      subst z
      exact sBin hf hr (fun a b => w32_ok _) (fun g p l e R s m args below meth c H locs cells slots LS Qt rest a b C _ _ k => lv_imul C.1 C.2.1 hd (by rw [w32_i, Int32.ofInt_mul] at k; exact k))
    · cases hr
  case idiv =>
    simp only [exI] at hr; split at hr
    · next z =>
      subst z
      exact sBin0 hf hr (fun a b => w32_ok _) (fun g p l e R s m args below meth c H locs cells slots LS Qt rest a b C oa ob hb0 k => lv_idiv C.1 C.2.1 hd (fun q => hb0 ((i32_eq ob ok0).mp q)) (by
        rw [w32_i, show Int32.ofInt (a.tdiv b) = Int32.ofInt a / Int32.ofInt b from e_div oa ob] at k; exact k))
    · cases hr
  case irem =>
    simp only [exI] at hr; split at hr
    · next z =>
      subst z
      exact sBin0 hf hr (fun a b => w32_ok _) (fun g p l e R s m args below meth c H locs cells slots LS Qt rest a b C oa ob hb0 k => lv_irem C.1 C.2.1 hd (fun q => hb0 ((i32_eq ob ok0).mp q)) (by
        rw [w32_i, show Int32.ofInt (a.tmod b) = Int32.ofInt a - Int32.ofInt a / Int32.ofInt b * Int32.ofInt b from e_rem oa ob] at k; exact k))
    · cases hr
  case iand =>
    simp only [exI] at hr; split at hr
    · next z =>
      subst z
      exact sBin hf hr (fun a b => i32_ok _) (fun g p l e R s m args below meth c H locs cells slots LS Qt rest a b C _ _ k => lv_iand C.1 C.2.1 hd (by rw [Int32.ofInt_toInt] at k; exact k))
    · cases hr
  case ixor =>
    simp only [exI] at hr; split at hr
    · next z =>
      subst z
      exact sBin hf hr (fun a b => i32_ok _) (fun g p l e R s m args below meth c H locs cells slots LS Qt rest a b C _ _ k => lv_ixor C.1 C.2.1 hd (by rw [Int32.ofInt_toInt] at k; exact k))
    · cases hr
  case i2c =>
    simp only [exI] at hr; split at hr
    · next z => subst z; exact sI2c hf hd hr
    · cases hr
  case iinc k n =>
    simp only [exI] at hr; split at hr
    · next z => obtain ⟨rfl, z2⟩ := z; exact sIinc hf hd z2 hr
    · cases hr
  case dup =>
    simp only [exI] at hr; split at hr
    · next z => subst z; exact sDup hf hd hr
    · cases hr
  case pop =>
    simp only [exI] at hr; split at hr
    · next z => subst z; exact sPop hf hd hr
    · cases hr
  case dup2 =>
    simp only [exI] at hr; split at hr
    · next z => subst z; exact sDup2 hf hd hr
    · cases hr
  case ifCond c off =>
    simp only [exI] at hr; split at hr
    · next z => subst z; exact sIf hf hr hd
    · cases hr
  case if_icmp c off =>
    simp only [exI] at hr; split at hr
    · next z => subst z; exact sIcmp hf hr hd
    · cases hr
  case goto off =>
    simp only [exI] at hr; split at hr
    · next z =>
      subst z
      refine sJ hf hr (fun o1 o2 => ⟨o1, o2⟩) ?_
      intro tgt ht g p l e R s m args below meth c _ o2 C H locs cells slots LS Qt hL kk
      exact lv_goto C.1 C.2.1 hd ht (kk LS hL)
    · cases hr
  case ifnull off =>
    simp only [exI] at hr; split at hr
    · next z => subst z; exact sNul (jump := false) hf hr hd
    · cases hr
  case ifnonnull off =>
    simp only [exI] at hr; split at hr
    · next z => subst z; exact sNul (jump := true) hf hr hd
    · cases hr
  case arraylength =>
    simp only [exI] at hr; split at hr
    · next z => subst z; exact sAlen hf hr hd
    · cases hr
  case iaload =>
    simp only [exI] at hr; split at hr
    · next z => subst z; exact sIald hf hr (Or.inl ⟨rfl, hd⟩)
    · cases hr
  case caload =>
    simp only [exI] at hr; split at hr
    · next z =>
      subst z
      split at hr
      · next i a rest =>
        split at hr
        · next h8 => exact sIald hf hr (Or.inr ⟨rfl, hd, fun i' a' rest' q => by cases q; exact h8⟩)
        · cases hr
      · cases hr
    · cases hr
  case aaload =>
    simp only [exI] at hr; split at hr
    · next z => subst z; exact sAald hf hr hd
    · cases hr
  case iastore =>
    simp only [exI] at hr; split at hr
    · next z => subst z; exact sIastore hf hr (Or.inl ⟨rfl, hd⟩)
    · cases hr
  case castore =>
    simp only [exI] at hr; split at hr
    · next z => subst z; exact sIastore hf hr (Or.inr ⟨rfl, hd⟩)
    · cases hr
  case aastore =>
    simp only [exI] at hr; split at hr
    · next z => subst z; exact sAastore hf hr hd
    · cases hr
  case getfield idx =>
    simp only [exI] at hr; split at hr
    · next z => subst z; exact sGet hf hr hd
    · cases hr
  case putfield idx =>
    simp only [exI] at hr; split at hr
    · next z => subst z; exact sPut hf hr hd
    · cases hr
  case getstatic idx =>
    simp only [exI] at hr; split at hr
    · next z => subst z; exact sStat hf hd hr
    · cases hr
  case new idx =>
    simp only [exI] at hr; split at hr
    · next z => subst z; exact sNew hf hr hd
    · cases hr
  case newarray t =>
    simp only [exI] at hr; split at hr
    · next z =>
      subst z
      cases t <;> first | exact sNewa hf hr hd (Or.inl ⟨rfl, rfl⟩) | exact sNewa hf hr hd (Or.inr ⟨rfl, rfl⟩) | cases hr
    · cases hr
  case anewarray idx =>
    simp only [exI] at hr; split at hr
    · next z =>
      subst z
      split at hr
      · next t ht =>
        split at hr
        · next h2 => exact sAnewa hf hd ht h2 hr
        · cases hr
      · cases hr
    · cases hr
  case invokestatic idx =>
    simp only [exI] at hr; split at hr
    · next z => subst z; exact sCallS hf hd hr
    · cases hr
  case invokevirtual idx =>
    simp only [exI] at hr; split at hr
    · next z => subst z; exact sCallV hf hd hr
    · cases hr
  case invokespecial idx =>
    simp only [exI] at hr; split at hr
    · next z => subst z; exact sCallI hf hd hr
    · cases hr
  case tableswitch dflt lo hi offs =>
    simp only [exI] at hr
    exact sTable hf hd hr
  case lookupswitch dflt ps =>
    simp only [exI] at hr; split at hr
    · next z => exact sLookup hf hd z hr
    · cases hr
  case ireturn =>
    simp only [exI] at hr; split at hr
    · next z => subst z; exact sRetI hd hr
    · cases hr
  case areturn =>
    simp only [exI] at hr; split at hr
    · next z => subst z; exact sRetA hd hr
    · cases hr
  case return_ =>
    simp only [exI] at hr; split at hr
    · next z => obtain ⟨rfl, z2, z3⟩ := z; exact sRetV hd z2 z3 hr
    · cases hr
  all_goals (simp only [exI] at hr; cases hr)
end EALL
/-- EVERY RUN -/
theorem ex_snd : ∀ n : Nat, eSnd (ex n)
  | 0 => fun _ _ _ _ _ _ _ hr => by cases hr
  | n + 1 => fun y pc ls st h r h' hr => by
    unfold ex at hr
    split at hr
    · next i len hd => exact exI_snd (ex_snd n) hd hr
    · cases hr
end
section
/-! THE CLAIM OUT OF ONE WALK OF THE LAW'S BODY. Your part is whole_start (and what it stands on); all else here is the same for every law, but numbers. -/
def R_law : String := "LampChangerLaw"
def lw_P (b : Addr) (xs : List Int32) (args : Array Value) (s : State) : Prop := args = #[.ref b] ∧ s.IntsAt b xs ∧ xs.length ≤ 2048 ∧ (Jvm.Cond.and given_1 narrow_1).before args s = true
def lw_Q (_ : Array Value) (s : State) (o : Outcome) (t : State) : Prop := o = .returned (some (.int 1)) ∧ Framed s o t [] 600000 7302250
def lw_Z (below : List Frame) (a : Array Value) (s : State) : State → Prop := fun t => ∃ o, t.status = .running ∧ Ended t below o ∧ lw_Q a s o t
/-- the law's own end, with 1 on the stack, nothing written that was there before, its room as the claim has it -/
theorem lw_ret {p : Program} {l : Launch} {e : Env} {s : State} {m : MethodId} {below : List Frame} {meth : Method} {c : Code} {b : Nat} (hx : p.tables.exec = Jvm.exec) (hb : c.code = code) (hr : meth.sig.returnType = ret) (hlocks : meth.locks = false) {pc : Nat} {H : Heap} {ls : Array Slot} (hdg : decode code pc = .ok (.ireturn, 1)) : W p l e room_1 s m #[Value.ref b] below meth c H [] 600000 7302250 (lw_Z below #[Value.ref b] s) (F0 m pc ls [.int 1]) := by
  intro T hT X
  obtain ⟨fs, hret, hrun, hended, hW, hframe⟩ := X.leave (v := some (.int 1)) (hlocks := hlocks) (fun h => by rw [hr] at h; cases h)
  have hmeth' : T.vm.method? m = some meth := X.method'
  refine ⟨T.setFrames fs, ?_, .returned (some (.int 1)), hrun, hended, rfl, ⟨_, rfl⟩, hW, hframe⟩
  jvm_step X.here [X.here.top, hx, hb, hdg, hmeth', hr, ret, narrow_b1]
  (try refine ⟨rfl, ?_⟩); (try refine ⟨rfl, ?_⟩)
  first | (intro acts; rw [hret _ acts rfl rfl rfl]) | rw [hret _ _ rfl rfl rfl]
  exact Steps.refl _
/-- what holds at the law's entry: the machine, the code, the tables' words (any of lw_tbl by 'hts w (by decide +kernel)'), the script of L ints xs at the cell b, what the Statement gives of the start (any of its parts by flat_of_before) -/
def lw_At (p : Program) (s : State) (m : MethodId) (meth : Method) (c : Code) (b L : Nat) (xs : Nat → Int32) : Prop :=
  p.tables.exec = Jvm.exec ∧ c.code = code ∧ meth.sig.returnType = ret ∧ c.maxLocals = 4 ∧ s.vm.findClass R_law = some m.cls ∧ (∀ w ∈ lw_tbl, w.before #[Value.ref b] s = true) ∧ va_X b L xs s s.heap ∧ b < s.heap.size ∧ meth.locks = false ∧ (Jvm.Cond.and given_1 narrow_1).before #[Value.ref b] s = true
end
section
theorem e_eqi {args : Array Value} {s : State} {t : Term} {z : Int32} (h : (Cond.eq t (.int z)).before args s = true) : t.eval args s none [] s = some (.int z) := by
  cases hv : t.eval args s none [] s with
  | none => simp [Cond.before, Cond.holds, Cond.value, hv] at h
  | some w =>
    have hz : (Term.int z).eval args s none [] s = some (.int z) := rfl
    simp only [Cond.before, Cond.holds, Cond.value, hv, hz] at h
    cases w <;> simp_all
theorem e_statArr {args : Array Value} {s : State} {t : Term} {vals : List Int} (hlen : (Cond.eq (.length t) (.int (Int32.ofNat vals.length))).before args s = true) (harr : (Cond.arrayOf t .int).before args s = true)
    (hv : ∀ i, i < vals.length → (Cond.eq (.elem t (.int (Int32.ofNat i))) (.int (Int32.ofInt (vals.getD i 0)))).before args s = true) (hl : vals.length < 2147483648 := by decide) :
    ∃ a : Nat, t.eval args s none [] s = some (.ref a) ∧ va_X a vals.length (fun j => Int32.ofInt (eVi ((vals.map fun z => (.inl z : eV)).getD j (.inl 0)))) s s.heap ∧ a < s.heap.size := by
  have h1 := e_eqi hlen
  obtain ⟨a, cell, ht, hcell, he⟩ := Term.length_spec h1
  obtain ⟨hcb, hkn, -, -⟩ := State.arrayAt?_spec hcell
  have h2 := Cond.arrayOf_spec harr ht hcb
  have hsz : cell.slots.size < 2147483648 := by
    simp only [Term.eval, ht, hcell, Option.bind_eq_bind, Option.bind_some] at h1
    by_cases hlt : cell.slots.size < 2147483648
    · exact hlt
    · simp [hlt] at h1
  have hsz2 : cell.slots.size = vals.length := by
    have e1 : Int32.ofNat vals.length = Int32.ofNat cell.slots.size := Value.int.inj he
    have e2 := congrArg Int32.toNatClampNeg e1
    rw [show (Int32.ofNat vals.length).toNatClampNeg = vals.length from nI_clamp (by omega), show (Int32.ofNat cell.slots.size).toNatClampNeg = cell.slots.size from nI_clamp (by omega)] at e2
    exact e2.symm
  refine ⟨a, ht, ⟨cell, hcb, h2.1, h2.2, hsz2, fun j hj => ?_⟩, (Array.getElem?_eq_some_iff.mp hcb).1⟩
  obtain ⟨a', j', cell', ht', hj', hcell', -, hs'⟩ := Term.elem_spec (e_eqi (hv j hj))
  cases ht.symm.trans ht'
  cases hcell.symm.trans hcell'
  have e3 : j' = Int32.ofNat j := by
    have : (Term.int (Int32.ofNat j)).eval args s none [] s = some (.int (Int32.ofNat j)) := rfl
    rw [this] at hj'
    cases hj'
    rfl
  subst e3
  rw [show (Int32.ofNat j).toNatClampNeg = j from nI_clamp (by omega)] at hs'
  rw [hs']
  dsimp only
  rw [List.getD_eq_getElem?_getD, List.getD_eq_getElem?_getD, List.getElem?_map, List.getElem?_eq_getElem hj]
  rfl
/-! the start: the eight first cells; statics by their values at the start -/
def eLaw : Nat := 166
def eSv : List (List Int) := [[80, 2, 2, 0], [400, 700, 200], [1000, 1400, 700], [10, 15, 5], [75, 1, 1, 0], [99, 5, 5, 1]]
theorem eLaw_B : eB eLaw = code := rfl
theorem eLaw_N : eN eLaw = 4 := rfl
theorem eLaw_F : room_1.frames = eF eLaw := rfl
theorem eLaw_L : room_1.locals = eL eLaw := rfl
theorem eStA_1 {args : Array Value} {s : State} (hts : ∀ w ∈ lw_tbl, w.before args s = true) (hgv : (Jvm.Cond.and given_1 narrow_1).before args s = true) : ∃ a : Nat, (Term.static "LampChanger" "FIRST_SETTINGS" "[I").eval args s none [] s = some (.ref a) ∧ va_X a 4 (fun j => Int32.ofInt (eVi (([.inl 80, .inl 2, .inl 2, .inl 0] : List eV).getD j (.inl 0)))) s s.heap ∧ a < s.heap.size ∧ (Cond.laysStatic "LampChanger" "FIRST_SETTINGS" "[I").before args s = true ∧ (Cond.initialized "LampChanger").before args s = true := by
  have hs := flat_of_before _ hgv
  obtain ⟨a, h1, h2, h3⟩ := e_statArr (t := .static "LampChanger" "FIRST_SETTINGS" "[I") (vals := [80, 2, 2, 0]) (hs _ (by decide +kernel)) (hs _ (by decide +kernel)) (by
    intro i hi
    rcases (show i = 0 ∨ i = 1 ∨ i = 2 ∨ i = 3 from (by simp only [List.length_cons, List.length_nil] at hi; omega)) with rfl | rfl | rfl | rfl <;> exact hs _ (by decide +kernel))
  exact ⟨a, h1, h2, h3, hts _ (List.mem_of_getElem? (i := 59) (by decide +kernel)), hts _ (List.mem_of_getElem? (i := 32) (by decide +kernel))⟩
theorem eStA_2 {args : Array Value} {s : State} (hts : ∀ w ∈ lw_tbl, w.before args s = true) (hgv : (Jvm.Cond.and given_1 narrow_1).before args s = true) : ∃ a : Nat, (Term.static "LampChanger$Lamp" "LIVES" "[I").eval args s none [] s = some (.ref a) ∧ va_X a 3 (fun j => Int32.ofInt (eVi (([.inl 400, .inl 700, .inl 200] : List eV).getD j (.inl 0)))) s s.heap ∧ a < s.heap.size ∧ (Cond.laysStatic "LampChanger$Lamp" "LIVES" "[I").before args s = true ∧ (Cond.initialized "LampChanger$Lamp").before args s = true := by
  have hs := flat_of_before _ hgv
  obtain ⟨a, h1, h2, h3⟩ := e_statArr (t := .static "LampChanger$Lamp" "LIVES" "[I") (vals := [400, 700, 200]) (hs _ (by decide +kernel)) (hs _ (by decide +kernel)) (by
    intro i hi
    rcases (show i = 0 ∨ i = 1 ∨ i = 2 from (by simp only [List.length_cons, List.length_nil] at hi; omega)) with rfl | rfl | rfl <;> exact hs _ (by decide +kernel))
  exact ⟨a, h1, h2, h3, hts _ (List.mem_of_getElem? (i := 407) (by decide +kernel)), hts _ (List.mem_of_getElem? (i := 38) (by decide +kernel))⟩
theorem eStA_3 {args : Array Value} {s : State} (hts : ∀ w ∈ lw_tbl, w.before args s = true) (hgv : (Jvm.Cond.and given_1 narrow_1).before args s = true) : ∃ a : Nat, (Term.static "LampChanger$Lamp" "NOMINAL_CURRENTS" "[I").eval args s none [] s = some (.ref a) ∧ va_X a 3 (fun j => Int32.ofInt (eVi (([.inl 1000, .inl 1400, .inl 700] : List eV).getD j (.inl 0)))) s s.heap ∧ a < s.heap.size ∧ (Cond.laysStatic "LampChanger$Lamp" "NOMINAL_CURRENTS" "[I").before args s = true ∧ (Cond.initialized "LampChanger$Lamp").before args s = true := by
  have hs := flat_of_before _ hgv
  obtain ⟨a, h1, h2, h3⟩ := e_statArr (t := .static "LampChanger$Lamp" "NOMINAL_CURRENTS" "[I") (vals := [1000, 1400, 700]) (hs _ (by decide +kernel)) (hs _ (by decide +kernel)) (by
    intro i hi
    rcases (show i = 0 ∨ i = 1 ∨ i = 2 from (by simp only [List.length_cons, List.length_nil] at hi; omega)) with rfl | rfl | rfl <;> exact hs _ (by decide +kernel))
  exact ⟨a, h1, h2, h3, hts _ (List.mem_of_getElem? (i := 552) (by decide +kernel)), hts _ (List.mem_of_getElem? (i := 38) (by decide +kernel))⟩
theorem eStA_4 {args : Array Value} {s : State} (hts : ∀ w ∈ lw_tbl, w.before args s = true) (hgv : (Jvm.Cond.and given_1 narrow_1).before args s = true) : ∃ a : Nat, (Term.static "LampChanger$Lamp" "WEARS_BY_SWITCHING_ON" "[I").eval args s none [] s = some (.ref a) ∧ va_X a 3 (fun j => Int32.ofInt (eVi (([.inl 10, .inl 15, .inl 5] : List eV).getD j (.inl 0)))) s s.heap ∧ a < s.heap.size ∧ (Cond.laysStatic "LampChanger$Lamp" "WEARS_BY_SWITCHING_ON" "[I").before args s = true ∧ (Cond.initialized "LampChanger$Lamp").before args s = true := by
  have hs := flat_of_before _ hgv
  obtain ⟨a, h1, h2, h3⟩ := e_statArr (t := .static "LampChanger$Lamp" "WEARS_BY_SWITCHING_ON" "[I") (vals := [10, 15, 5]) (hs _ (by decide +kernel)) (hs _ (by decide +kernel)) (by
    intro i hi
    rcases (show i = 0 ∨ i = 1 ∨ i = 2 from (by simp only [List.length_cons, List.length_nil] at hi; omega)) with rfl | rfl | rfl <;> exact hs _ (by decide +kernel))
  exact ⟨a, h1, h2, h3, hts _ (List.mem_of_getElem? (i := 540) (by decide +kernel)), hts _ (List.mem_of_getElem? (i := 38) (by decide +kernel))⟩
theorem eStA_5 {args : Array Value} {s : State} (hts : ∀ w ∈ lw_tbl, w.before args s = true) (hgv : (Jvm.Cond.and given_1 narrow_1).before args s = true) : ∃ a : Nat, (Term.static "LampChanger" "LOWEST_SETTINGS" "[I").eval args s none [] s = some (.ref a) ∧ va_X a 4 (fun j => Int32.ofInt (eVi (([.inl 75, .inl 1, .inl 1, .inl 0] : List eV).getD j (.inl 0)))) s s.heap ∧ a < s.heap.size ∧ (Cond.laysStatic "LampChanger" "LOWEST_SETTINGS" "[I").before args s = true ∧ (Cond.initialized "LampChanger").before args s = true := by
  have hs := flat_of_before _ hgv
  obtain ⟨a, h1, h2, h3⟩ := e_statArr (t := .static "LampChanger" "LOWEST_SETTINGS" "[I") (vals := [75, 1, 1, 0]) (hs _ (by decide +kernel)) (hs _ (by decide +kernel)) (by
    intro i hi
    rcases (show i = 0 ∨ i = 1 ∨ i = 2 ∨ i = 3 from (by simp only [List.length_cons, List.length_nil] at hi; omega)) with rfl | rfl | rfl | rfl <;> exact hs _ (by decide +kernel))
  exact ⟨a, h1, h2, h3, hts _ (List.mem_of_getElem? (i := 329) (by decide +kernel)), hts _ (List.mem_of_getElem? (i := 32) (by decide +kernel))⟩
theorem eStA_6 {args : Array Value} {s : State} (hts : ∀ w ∈ lw_tbl, w.before args s = true) (hgv : (Jvm.Cond.and given_1 narrow_1).before args s = true) : ∃ a : Nat, (Term.static "LampChanger" "HIGHEST_SETTINGS" "[I").eval args s none [] s = some (.ref a) ∧ va_X a 4 (fun j => Int32.ofInt (eVi (([.inl 99, .inl 5, .inl 5, .inl 1] : List eV).getD j (.inl 0)))) s s.heap ∧ a < s.heap.size ∧ (Cond.laysStatic "LampChanger" "HIGHEST_SETTINGS" "[I").before args s = true ∧ (Cond.initialized "LampChanger").before args s = true := by
  have hs := flat_of_before _ hgv
  obtain ⟨a, h1, h2, h3⟩ := e_statArr (t := .static "LampChanger" "HIGHEST_SETTINGS" "[I") (vals := [99, 5, 5, 1]) (hs _ (by decide +kernel)) (hs _ (by decide +kernel)) (by
    intro i hi
    rcases (show i = 0 ∨ i = 1 ∨ i = 2 ∨ i = 3 from (by simp only [List.length_cons, List.length_nil] at hi; omega)) with rfl | rfl | rfl | rfl <;> exact hs _ (by decide +kernel))
  exact ⟨a, h1, h2, h3, hts _ (List.mem_of_getElem? (i := 334) (by decide +kernel)), hts _ (List.mem_of_getElem? (i := 32) (by decide +kernel))⟩
def eH0 (L : Nat) (xs : Nat → Int32) : eH := ((999, []) : eC) :: (eSv.map fun l => ((100, l.map fun z => (.inl z : eV)) : eC)) ++ [(100, (List.range L).map fun j => (.inl (xs j).toInt : eV))]
theorem eH0_len (L : Nat) (xs : Nat → Int32) : (eH0 L xs).length = 8 := rfl
theorem eH0_get (L : Nat) (xs : Nat → Int32) {k : Nat} {c : eC} (h1 : 1 ≤ k) (h8 : k < 8) (h : (eH0 L xs)[k]? = some c) : (∃ l, eSv[k - 1]? = some l ∧ c = (100, l.map fun z => (.inl z : eV))) ∨ (k = 7 ∧ c = (100, (List.range L).map fun j => (.inl (xs j).toInt : eV))) := by
  rcases (show k = 1 ∨ k = 2 ∨ k = 3 ∨ k = 4 ∨ k = 5 ∨ k = 6 ∨ k = 7 by omega) with rfl | rfl | rfl | rfl | rfl | rfl | rfl <;> cases h
  · exact Or.inl ⟨_, rfl, rfl⟩
  · exact Or.inl ⟨_, rfl, rfl⟩
  · exact Or.inl ⟨_, rfl, rfl⟩
  · exact Or.inl ⟨_, rfl, rfl⟩
  · exact Or.inl ⟨_, rfl, rfl⟩
  · exact Or.inl ⟨_, rfl, rfl⟩
  · exact Or.inr ⟨rfl, rfl⟩
theorem eH0_ok (L : Nat) (xs : Nat → Int32) : eOkH (eH0 L xs) := by
  intro c hc
  unfold eH0 at hc
  rcases List.mem_append.mp hc with hc | hc
  · rcases List.mem_cons.mp hc with hc | hc
    · rw [hc]; exact eOkL_nil
    · obtain ⟨l, hl, rfl⟩ := List.mem_map.mp hc
      intro v hv
      obtain ⟨z, hz, rfl⟩ := List.mem_map.mp hv
      have : eSv.all (fun l => l.all fun z => decide (-2147483648 ≤ z) && decide (z ≤ 2147483647)) = true := by decide +kernel
      have h2 := List.all_eq_true.mp (List.all_eq_true.mp this l hl) z hz
      simp only [Bool.and_eq_true, decide_eq_true_eq] at h2
      exact eOkV_l h2
  · rw [List.mem_singleton.mp hc]
    intro v hv
    obtain ⟨j, -, rfl⟩ := List.mem_map.mp hv
    exact eOkV_l (i32_ok _)
theorem e_known {args : Array Value} {s : State} (hts : ∀ w ∈ eWs, w.before args s = true) : ∃ (dC : Nat → ClassId) (dI : Nat → Nat → Nat), ∀ (k : Nat) (q : vw_C), vwCl[k]? = some q → u_Kn s q.1 q.2.1 q.2.2 (dC k) (dI k) := by
  have h : ∀ k : Nat, ∃ (z : ClassId × (Nat → Nat)), ∀ q : vw_C, vwCl[k]? = some q → u_Kn s q.1 q.2.1 q.2.2 z.1 z.2 := by
    intro k
    cases hk : vwCl[k]? with
    | none => exact ⟨(0, fun _ => 0), fun q hq => by cases hq⟩
    | some q =>
      obtain ⟨C, T, N⟩ := q
      obtain ⟨v1, v2, -⟩ := eV_spec hk
      obtain ⟨cC, iS, hKn⟩ := u_known hts v1 (hts _ v2)
      exact ⟨(cC, iS), fun q hq => by cases hq; exact hKn⟩
  exact ⟨fun k => (Classical.choose (h k)).1, fun k => (Classical.choose (h k)).2, fun k q hq => Classical.choose_spec (h k) q hq⟩
theorem e_arrs {args : Array Value} {s : State} (hts : ∀ w ∈ lw_tbl, w.before args s = true) : ∃ aC : Nat → ClassId, ∀ (k : Nat) (q : ClassId × FieldType), ([(aC 0, .int), (aC 1, .char), (aC 2, .object "LampChanger$Lamp"), (aC 3, .object "LampChanger$Beacon")] : List (ClassId × FieldType))[k]? = some q → ArrOfT s q.1 q.2 ∧ va_RA s q.1 q.2 := by
  obtain ⟨c0, k0, m0, a1, a2, a3⟩ := Cond.arrayClass_spec (hts _ (List.mem_filter.mp eOther6).1)
  obtain ⟨c1, k1, m1, b1, b2, b3⟩ := Cond.arrayClass_spec (hts _ (List.mem_filter.mp eOther7).1)
  obtain ⟨m2, c2, k2, d1, d2, d3, d4, d5⟩ := Cond.arrayOver_spec (hts (.arrayOver (.object "LampChanger$Lamp")) (by decide +kernel))
  obtain ⟨m3, c3, k3, f1, f2, f3, f4, f5⟩ := Cond.arrayOver_spec (hts (.arrayOver (.object "LampChanger$Beacon")) (by decide +kernel))
  refine ⟨fun j => if j = 0 then c0 else if j = 1 then c1 else if j = 2 then c2 else c3, fun k q hq => ?_⟩
  match k, hq with
  | 0, hq => cases hq; exact ⟨fun n z => ⟨fun k h => (by cases h), k0, a2, m0, a3⟩, a1⟩
  | 1, hq => cases hq; exact ⟨fun n z => ⟨fun k h => (by cases h), k1, b2, m1, b3⟩, b1⟩
  | 2, hq => cases hq; exact ⟨fun n z => ⟨fun k h => (by cases h), k2, d3, m2, d4⟩, k2, m2, d3, d4, d1, d5⟩
  | 3, hq => cases hq; exact ⟨fun n z => ⟨fun k h => (by cases h), k3, f3, m3, f4⟩, k3, m3, f3, f4, f1, f5⟩
  | n + 4, hq => simp at hq
theorem e_start {p : Program} {e : Env} {s : State} {m : MethodId} {below : List Frame} {meth : Method} {c : Code} (l : Launch) {b L : Nat} {xs : Nat → Int32} (C0 : lw_At p s m meth c b L xs)
    (hrun : ∃ (n : Nat) (h' : eH), ex n eLaw 0 (eLoc eLaw [.inr 7]) [] (eH0 L xs) = some (some (.inl 1), h') ∧ h'.length ≤ 600008 ∧ eSz h' ≤ 7302250) :
    W p l e room_1 s m #[Value.ref b] below meth c s.heap [] 0 0 (lw_Z below #[Value.ref b] s) (entryFrame m ([Value.ref b] : List Value).toArray 4) := by
  obtain ⟨hx, hb, hr, hml, hown, hts, hX, hbl, hlocks, hgv⟩ := C0
  obtain ⟨n, h', hrun, hc, hs⟩ := hrun
  have hts2 : ∀ w ∈ eWs, w.before #[Value.ref b] s = true := fun w hw => hts w (List.mem_filter.mp hw).1
  obtain ⟨dC, dI, hKn⟩ := e_known hts2
  obtain ⟨aC, hAr⟩ := e_arrs hts
  obtain ⟨a1, t1, u1, v1, w1, x1⟩ := eStA_1 hts hgv
  obtain ⟨a2, t2, u2, v2, w2, x2⟩ := eStA_2 hts hgv
  obtain ⟨a3, t3, u3, v3, w3, x3⟩ := eStA_3 hts hgv
  obtain ⟨a4, t4, u4, v4, w4, x4⟩ := eStA_4 hts hgv
  obtain ⟨a5, t5, u5, v5, w5, x5⟩ := eStA_5 hts hgv
  obtain ⟨a6, t6, u6, v6, w6, x6⟩ := eStA_6 hts hgv
  let g : eGt := (s.heap.size, (fun k => if k = 1 then a1 else if k = 2 then a2 else if k = 3 then a3 else if k = 4 then a4 else if k = 5 then a5 else if k = 6 then a6 else b), (dC, dI), aC)
  have hnA : ∀ a : Nat, a < s.heap.size → ¬ eAr g a := fun a ha => Nat.not_le.mpr ha
  have hSt : eS g (eH0 L xs) s := by
    refine ⟨?_, ⟨Nat.le_refl _, ?_⟩, ?_, ⟨va_AO.of (A := #[Value.ref b]) (hts _ (by decide +kernel)), va_AO.of (A := #[Value.ref b]) (hts _ (by decide +kernel))⟩, hKn, hAr⟩
    · intro k cc h1 h8 hk
      rcases eH0_get L xs h1 h8 hk with ⟨ll, hl, rfl⟩ | ⟨rfl, rfl⟩
      · rcases (show k = 1 ∨ k = 2 ∨ k = 3 ∨ k = 4 ∨ k = 5 ∨ k = 6 ∨ k = 7 by omega) with rfl | rfl | rfl | rfl | rfl | rfl | rfl <;> cases hl
        · exact ⟨rfl, v1, Nat.le_refl _, u1⟩
        · exact ⟨rfl, v2, Nat.le_refl _, u2⟩
        · exact ⟨rfl, v3, Nat.le_refl _, u3⟩
        · exact ⟨rfl, v4, Nat.le_refl _, u4⟩
        · exact ⟨rfl, v5, Nat.le_refl _, u5⟩
        · exact ⟨rfl, v6, Nat.le_refl _, u6⟩
      · refine ⟨rfl, hbl, Nat.le_refl _, ?_⟩
        obtain ⟨scr, q1, q2, q3, q4, q5⟩ := hX
        refine ⟨scr, q1, q2, q3, by simp [q4], fun j hj => ?_⟩
        have hj2 : j < L := by simpa using hj
        rw [q5 j hj2]
        dsimp only
        rw [List.getD_eq_getElem?_getD, List.getElem?_map, List.getElem?_range hj2]
        simp [eVi]
    · intro j fd hj
      rcases (show j = 0 ∨ j = 1 ∨ j = 2 ∨ j = 3 ∨ j = 4 ∨ j = 5 by
        have := (List.getElem?_eq_some_iff.mp hj).1
        have h6 : eSn.length = 6 := by decide +kernel
        omega) with rfl | rfl | rfl | rfl | rfl | rfl <;> cases hj
      · exact va_Zof w1 x1 t1 hnA
      · exact va_Zof w2 x2 t2 hnA
      · exact va_Zof w3 x3 t3 hnA
      · exact va_Zof w4 x4 t4 hnA
      · exact va_Zof w5 x5 t5 hnA
      · exact va_Zof w6 x6 t6 hnA
    · intro w hw
      have h2 := List.mem_filter.mp hw
      have h3 := hts w h2.1
      have h4 := h2.2
      cases w <;> first | exact va_Nw.of rfl h3 | cases h4
  have CX : eCx g eLaw (eH0 L xs) p room_1 s m #[Value.ref b] meth c := ⟨hx, hb.trans eLaw_B.symm, hml, hown, hts2, fun h => (by cases h), eLaw_F, eLaw_L, hSt⟩
  have hWd : eWd g (eH0 L xs) s.heap := ⟨Nat.le_refl _, rfl, fun k q hq => by simp [eWl, eH0_len] at hq⟩
  rw [lg_entry_eq]
  have hL0 : eLr g eLaw (eLoc eLaw [.inr 7]) _ := eLr_entry (g := g) (y := eLaw) (vs := [.inr 7]) (by decide)
  have okl : eOkL (eLoc eLaw [.inr 7]) := eOkL_app.mpr ⟨eOkL_cons.mpr ⟨eOkV_r 7, eOkL_nil⟩, fun v hv => by rw [List.eq_of_mem_replicate hv]; exact eOkV_r 0⟩
  have hlen : (eH0 L xs).length = 8 := eH0_len L xs
  refine (ex_snd n eLaw 0 (eLoc eLaw [.inr 7]) [] (eH0 L xs) (some (.inl 1)) h' hrun okl eOkL_nil (eH0_ok L xs) (Nat.le_refl _)).2.2.2 g p l e room_1 s m _ below meth c CX s.heap [] 0 0 _ _ hWd va_S.rf hL0 (by show _ ≤ 600000; omega) (by show _ ≤ 7302250; omega) ?_
  intro H' locs' LS' pc' stv k1 k2 k3
  rcases k3 with ⟨z, -⟩ | ⟨x, hx1, rfl, hd, -⟩ | ⟨a, z, -⟩
  · cases z
  · cases hx1
    refine va_forget (fun q hq => k2.2.2 q hq) ?_
    refine W.widen (k := 600000) (n := 7302250) (by omega) (by omega) ?_
    rw [eLaw_B] at hd
    exact lw_ret hx hb hr hlocks hd
  · cases z
end
section
/-! more fuel, the same answer -/
def eLe (f g : eK) : Prop := ∀ (y pc : Nat) (ls st : List eV) (h : eH) (r : Option eV × eH), f y pc ls st h = some r → g y pc ls st h = some r
section EMONO
variable {f g : eK} {y pc k : Nat} {ls st : List eV} {h : eH} {r : Option eV × eH}
theorem mJ {off : Int} (H : eLe f g) : eJ f y pc off ls st h = some r → eJ g y pc off ls st h = some r := by
  unfold eJ
  split
  · exact H _ _ _ _ _ _
  · exact id
theorem mRun {y2 : Nat} {vs : List eV} (H : eLe f g) : xRun f y pc y2 vs ls st h = some r → xRun g y pc y2 vs ls st h = some r := by
  unfold xRun
  split
  · intro hr
    split at hr
    · next q hq =>
      rw [H _ _ _ _ _ _ hq]
      exact H _ _ _ _ _ _ hr
    · cases hr
  · exact id
theorem mCopy (H : eLe f g) : xCopy f y pc ls st h = some r → xCopy g y pc ls st h = some r := by
  unfold xCopy
  repeat' split
  all_goals first | exact H _ _ _ _ _ _ | (intro z; cases z; done)
theorem mCall {k0 idx : Nat} (H : eLe f g) : xCall f k0 y pc idx ls st h = some r → xCall g k0 y pc idx ls st h = some r := by
  unfold xCall
  repeat' split
  all_goals first | exact H _ _ _ _ _ _ | exact mRun H | exact mCopy H | (intro z; cases z; done)
theorem mAld (H : eLe f g) : xAld f y pc k ls st h = some r → xAld g y pc k ls st h = some r := by
  unfold xAld
  repeat' split
  all_goals first | exact H _ _ _ _ _ _ | (intro z; cases z; done)
theorem mIld (H : eLe f g) : xIld f y pc k ls st h = some r → xIld g y pc k ls st h = some r := by
  unfold xIld
  repeat' split
  all_goals first | exact H _ _ _ _ _ _ | (intro z; cases z; done)
theorem mAst (H : eLe f g) : xAst f y pc k ls st h = some r → xAst g y pc k ls st h = some r := by
  unfold xAst
  repeat' split
  all_goals first | exact H _ _ _ _ _ _ | (intro z; cases z; done)
theorem mIst (H : eLe f g) : xIst f y pc k ls st h = some r → xIst g y pc k ls st h = some r := by
  unfold xIst
  repeat' split
  all_goals first | exact H _ _ _ _ _ _ | (intro z; cases z; done)
theorem mBin {op : Int → Int → Int} (H : eLe f g) : xBin f y pc op ls st h = some r → xBin g y pc op ls st h = some r := by
  unfold xBin
  repeat' split
  all_goals first | exact H _ _ _ _ _ _ | (intro z; cases z; done)
theorem mBin0 {op : Int → Int → Int} (H : eLe f g) : xBin0 f y pc op ls st h = some r → xBin0 g y pc op ls st h = some r := by
  unfold xBin0
  repeat' split
  all_goals first | exact H _ _ _ _ _ _ | (intro z; cases z; done)
theorem mIf {c : Jvm.ClassFile.Cond} {off : Int} (H : eLe f g) : xIf f y pc c off ls st h = some r → xIf g y pc c off ls st h = some r := by
  unfold xIf
  repeat' split
  all_goals first | exact H _ _ _ _ _ _ | (intro z; cases z; done)
theorem mIcmp {c : Jvm.ClassFile.Cond} {off : Int} (H : eLe f g) : xIcmp f y pc c off ls st h = some r → xIcmp g y pc c off ls st h = some r := by
  unfold xIcmp
  repeat' split
  all_goals first | exact H _ _ _ _ _ _ | (intro z; cases z; done)
theorem mNul {j : Bool} {off : Int} (H : eLe f g) : xNul f y pc j off ls st h = some r → xNul g y pc j off ls st h = some r := by
  unfold xNul
  repeat' split
  all_goals first | exact H _ _ _ _ _ _ | exact mJ H | (intro z; cases z; done)
theorem mAlen (H : eLe f g) : xAlen f y pc ls st h = some r → xAlen g y pc ls st h = some r := by
  unfold xAlen
  repeat' split
  all_goals first | exact H _ _ _ _ _ _ | (intro z; cases z; done)
theorem mIald {t : Nat} (H : eLe f g) : xIald f y pc t ls st h = some r → xIald g y pc t ls st h = some r := by
  unfold xIald
  repeat' split
  all_goals first | exact H _ _ _ _ _ _ | (intro z; cases z; done)
theorem mAald (H : eLe f g) : xAald f y pc ls st h = some r → xAald g y pc ls st h = some r := by
  unfold xAald
  repeat' split
  all_goals first | exact H _ _ _ _ _ _ | (intro z; cases z; done)
theorem mIastore {t : Nat} (H : eLe f g) : xIastore f y pc t ls st h = some r → xIastore g y pc t ls st h = some r := by
  unfold xIastore
  repeat' split
  all_goals first | exact H _ _ _ _ _ _ | (intro z; cases z; done)
theorem mAastore (H : eLe f g) : xAastore f y pc ls st h = some r → xAastore g y pc ls st h = some r := by
  unfold xAastore
  repeat' split
  all_goals first | exact H _ _ _ _ _ _ | (intro z; cases z; done)
theorem mGet {idx : Nat} (H : eLe f g) : xGet f y pc idx ls st h = some r → xGet g y pc idx ls st h = some r := by
  unfold xGet
  repeat' split
  all_goals first | exact H _ _ _ _ _ _ | (intro z; cases z; done)
theorem mPut {idx : Nat} (H : eLe f g) : xPut f y pc idx ls st h = some r → xPut g y pc idx ls st h = some r := by
  unfold xPut
  repeat' split
  all_goals first | exact H _ _ _ _ _ _ | (intro z; cases z; done)
theorem mNew {idx : Nat} (H : eLe f g) : xNew f y pc idx ls st h = some r → xNew g y pc idx ls st h = some r := by
  unfold xNew
  repeat' split
  all_goals first | exact H _ _ _ _ _ _ | (intro z; cases z; done)
theorem mNewa {t : Nat} {v : eV} (H : eLe f g) : xNewa f y pc t v ls st h = some r → xNewa g y pc t v ls st h = some r := by
  unfold xNewa
  repeat' split
  all_goals first | exact H _ _ _ _ _ _ | (intro z; cases z; done)
theorem exI_mono {i : Instr} {len : Nat} (H : eLe f g) : exI f y pc i len ls st h = some r → exI g y pc i len ls st h = some r := by
  cases i <;> simp only [exI, xPush] <;> (repeat' split) <;>
    first | exact id | exact H _ _ _ _ _ _ | exact mCall H | exact mJ H | exact mAld H | exact mIld H | exact mAst H | exact mIst H | exact mBin H | exact mBin0 H | exact mIf H | exact mIcmp H | exact mNul H | exact mAlen H | exact mIald H | exact mAald H | exact mIastore H | exact mAastore H | exact mGet H | exact mPut H | exact mNew H | exact mNewa H | (intro z; cases z; done)
end EMONO
theorem ex_mono1 : ∀ n : Nat, eLe (ex n) (ex (n + 1))
  | 0 => fun _ _ _ _ _ _ h => by cases h
  | n + 1 => fun y pc ls st h r hr => by
    unfold ex at hr ⊢
    split at hr
    · next i len hd => exact exI_mono (ex_mono1 n) hr
    · cases hr
theorem ex_mono {n m : Nat} (h : n ≤ m) : eLe (ex n) (ex m) := by
  induction h with
  | refl => exact fun _ _ _ _ _ _ h => h
  | step _ ih => exact fun _ _ _ _ _ _ h => ex_mono1 _ _ _ _ _ _ _ (ih _ _ _ _ _ _ h)
/-! a run ends, and then Q holds -/
def wp (y pc : Nat) (ls st : List eV) (h : eH) (Q : Option eV → eH → Prop) : Prop := ∃ (n : Nat) (r : Option eV) (h' : eH), ex n y pc ls st h = some (r, h') ∧ Q r h'
/-- what follows a call -/
def kont (y pc : Nat) (ls st : List eV) (Q : Option eV → eH → Prop) : Option eV → eH → Prop := fun r h => wp y pc ls (r.toList ++ st) h Q
theorem kont_some {y pc : Nat} {ls st : List eV} {Q : Option eV → eH → Prop} {v : eV} {h : eH} : kont y pc ls st Q (some v) h ↔ wp y pc ls (v :: st) h Q := Iff.rfl
theorem kont_none {y pc : Nat} {ls st : List eV} {Q : Option eV → eH → Prop} {h : eH} : kont y pc ls st Q none h ↔ wp y pc ls st h Q := Iff.rfl
theorem ex_det {n m y pc : Nat} {ls st : List eV} {h : eH} {a b : Option eV × eH} (h1 : ex n y pc ls st h = some a) (h2 : ex m y pc ls st h = some b) : a = b := by
  rcases Nat.le_total n m with q | q
  · have := ex_mono q _ _ _ _ _ _ h1
    exact Option.some.inj (this.symm.trans h2)
  · have := ex_mono q _ _ _ _ _ _ h2
    exact Option.some.inj (h1.symm.trans this)
theorem wp_mono {y pc : Nat} {ls st : List eV} {h : eH} {Q Q2 : Option eV → eH → Prop} (H : ∀ r h', Q r h' → Q2 r h') : wp y pc ls st h Q → wp y pc ls st h Q2 := fun ⟨n, r, h', a, b⟩ => ⟨n, r, h', a, H r h' b⟩
/-- a run whose end is known is a rewriting rule -/
theorem wp_iff {y pc : Nat} {ls st : List eV} {h h0 : eH} {r0 : Option eV} (H : wp y pc ls st h (fun r h' => r = r0 ∧ h' = h0)) (Q : Option eV → eH → Prop) : wp y pc ls st h Q ↔ Q r0 h0 := by
  obtain ⟨n, r, h', a, rfl, rfl⟩ := H
  constructor
  · rintro ⟨m, r2, h2, b, c⟩
    have := ex_det a b
    cases this
    exact c
  · exact fun c => ⟨n, _, _, a, c⟩
/-- one step that doesn't call -/
theorem wp_step {y pc pc2 : Nat} {ls st ls2 st2 : List eV} {h h2 : eH} {Q : Option eV → eH → Prop} {i : Instr} {len : Nat} (hd : decode (eB y) pc = .ok (i, len)) (hs : ∀ f : eK, exI f y pc i len ls st h = f y pc2 ls2 st2 h2) : wp y pc ls st h Q ↔ wp y pc2 ls2 st2 h2 Q := by
  have e : ∀ n, ex (n + 1) y pc ls st h = ex n y pc2 ls2 st2 h2 := fun n => by
    show (match decode (eB y) pc with
      | .ok (i, len) => exI (ex n) y pc i len ls st h
      | _ => none) = _
    rw [hd]
    exact hs _
  constructor
  · rintro ⟨n, r, h', a, b⟩
    cases n with
    | zero => cases a
    | succ n => rw [e] at a; exact ⟨n, r, h', a, b⟩
  · rintro ⟨n, r, h', a, b⟩
    exact ⟨n + 1, r, h', by rw [e]; exact a, b⟩
theorem wp_end {y pc : Nat} {ls st : List eV} {h : eH} {Q : Option eV → eH → Prop} {r : Option eV} {i : Instr} {len : Nat} (hd : decode (eB y) pc = .ok (i, len)) (hs : ∀ f : eK, exI f y pc i len ls st h = some (r, h)) : wp y pc ls st h Q ↔ Q r h := by
  refine wp_iff ⟨1, r, h, ?_, rfl, rfl⟩ Q
  show (match decode (eB y) pc with
      | .ok (i, len) => exI (ex 0) y pc i len ls st h
      | _ => none) = _
  rw [hd]
  exact hs _
theorem wp_call {y pc y2 : Nat} {ls st vs st2 : List eV} {h : eH} {Q : Option eV → eH → Prop} {i : Instr} {len : Nat} (hd : decode (eB y) pc = .ok (i, len)) (hs : ∀ f : eK, exI f y pc i len ls st h = xRun f y pc y2 vs ls st2 h) (hc : eRoom y y2 = true ∧ vs.length ≤ eN y2 ∧ st2.length ≤ 8) :
    wp y pc ls st h Q ↔ wp y2 0 (eLoc y2 vs) [] h (kont y (pc + 3) ls st2 Q) := by
  have e : ∀ n, ex (n + 1) y pc ls st h = (match ex n y2 0 (eLoc y2 vs) [] h with
      | some r => ex n y (pc + 3) ls (r.1.toList ++ st2) r.2
      | none => none) := fun n => by
    show (match decode (eB y) pc with
      | .ok (i, len) => exI (ex n) y pc i len ls st h
      | _ => none) = _
    rw [hd]
    show exI (ex n) y pc i len ls st h = _
    rw [hs, xRun, if_pos hc]
    cases ex n y2 0 (eLoc y2 vs) [] h <;> rfl
  constructor
  · rintro ⟨n, r, h', a, b⟩
    cases n with
    | zero => cases a
    | succ n =>
      rw [e] at a
      cases hq : ex n y2 0 (eLoc y2 vs) [] h with
      | none => rw [hq] at a; cases a
      | some q =>
        rw [hq] at a
        exact ⟨n, q.1, q.2, hq, n, r, h', a, b⟩
  · rintro ⟨n, r1, h1, a1, m, r, h', a, b⟩
    refine ⟨max n m + 1, r, h', ?_, b⟩
    rw [e, ex_mono (Nat.le_max_left n m) _ _ _ _ _ _ a1]
    exact ex_mono (Nat.le_max_right n m) _ _ _ _ _ _ a
end
section
/-! THE MADE CELLS once the two objects are made: which cell is what (tg), how many places it has (ln), which of them are references (ro: the offset to the cell that it names); all else are numbers, D k j -/
def tgB : List Nat := [0, 100, 100, 6, 102, 3, 3, 3, 3, 3, 3, 3, 4, 100, 100, 100, 1, 100, 100, 100]
def tgL : List Nat := [999, 100, 100, 100, 100, 100, 100, 100, 7] ++ tgB ++ tgB ++ tgB ++ [3, 2, 103] ++ tgB ++ tgB ++ tgB ++ tgB ++ [5, 101, 4, 100, 100, 100, 8, 100, 100, 100, 100, 101, 100]
def tg (k : Nat) : Nat := tgL.getD k 999
def lnB : List Nat := [13, 4, 3, 6, 6, 6, 6, 6, 6, 6, 6, 6, 4, 10, 10, 10, 5, 10, 10, 10]
def lnL : List Nat := [0, 4, 3, 3, 3, 4, 4, 0, 8] ++ lnB ++ lnB ++ lnB ++ [6, 3, 4] ++ lnB ++ lnB ++ lnB ++ lnB ++ [7, 60, 4, 10, 10, 10, 11, 111, 111, 444, 111, 60, 48]
def ln (S : List Int) (k : Nat) : Nat := if k = 7 then S.length else lnL.getD k 0
def ro (t j : Nat) : Option Nat := match t with
  | 0 => [some 1, some 2, some 3, some 12, some 16].getD j none
  | 1 => [some 1, some 2, some 3].getD j none
  | 2 => [some 1].getD j none
  | 4 => [some 1, some 2, some 3].getD j none
  | 5 => [some 1].getD j none
  | 6 => [some 1, some 8].getD j none
  | 7 => [some 1, some 21, some 41, some 61, some 62, some 144, some 146].getD j none
  | 8 => [some 1, some 2, some 3, none, some 4, none, some 5, none, none, some 6].getD j none
  | 102 => some (1 + j)
  | 103 => some (1 + 20 * j)
  | _ => none
abbrev eD : Type := Nat → Nat → Int
def stv (S : List Int) (k j : Nat) : Int := if k = 7 then S.getD j 0 else (eSv.getD (k - 1) []).getD j 0
def rd (S : List Int) (D : eD) (k j : Nat) : Int := if k < 8 then stv S k j else D k j
def slF (S : List Int) (D : eD) (k j : Nat) : eV := match ro (tg k) j with
  | some o => .inr (k + o)
  | none => .inl (rd S D k j)
def ceF (S : List Int) (D : eD) (k : Nat) : eC := (tg k, (List.range (ln S k)).map (slF S D k))
def hp (S : List Int) (D : eD) : eH := (List.range 165).map (ceF S D)
def up (D : eD) (k j : Nat) (v : Int) : eD := fun k' j' => if k' = k ∧ j' = j then v else D k' j'
theorem hp_get {S : List Int} {D : eD} {k : Nat} (h : k < 165) : (hp S D)[k]? = some (ceF S D k) := by
  unfold hp
  rw [List.getElem?_map, List.getElem?_range h]
  rfl
theorem hp_len {S : List Int} {D : eD} : (hp S D).length = 165 := by simp [hp]
theorem ce_get {S : List Int} {D : eD} {k j : Nat} (h : j < ln S k) : (ceF S D k).2[j]? = some (slF S D k j) := by
  unfold ceF
  rw [List.getElem?_map, List.getElem?_range h]
  rfl
theorem ce_len {S : List Int} {D : eD} {k : Nat} : (ceF S D k).2.length = ln S k := by simp [ceF]
theorem tg_lt {k : Nat} (h : tg k ≠ 999) : k < 165 := by
  by_cases q : k < 165
  · exact q
  · exfalso
    apply h
    unfold tg
    rw [List.getD_eq_getElem?_getD, List.getElem?_eq_none (by rw [show tgL.length = 165 by decide +kernel]; omega)]
    rfl
theorem tg_lo : ∀ k, k < 8 → tg k = 100 ∨ tg k = 999 := by decide
theorem tg_hi {k : Nat} (h : tg k ≠ 999) (h2 : tg k ≠ 100) : 8 ≤ k := by
  rcases Nat.lt_or_ge k 8 with q | q
  · rcases tg_lo k q with z | z
    · exact absurd z h2
    · exact absurd z h
  · exact q
/-- the heap says no more of D than its numbers -/
def isN (S : List Int) (k j : Nat) : Prop := 8 ≤ k ∧ k < 165 ∧ j < ln S k ∧ ro (tg k) j = none
theorem hp_ext {S : List Int} {D D' : eD} (h : ∀ k j, isN S k j → D k j = D' k j) : hp S D = hp S D' := by
  unfold hp
  apply List.map_congr_left
  intro k hk
  rw [List.mem_range] at hk
  unfold ceF
  congr 1
  apply List.map_congr_left
  intro j hj
  rw [List.mem_range] at hj
  unfold slF
  cases hr : ro (tg k) j with
  | some o => rfl
  | none =>
    dsimp only
    unfold rd
    split
    · rfl
    · rw [h k j ⟨by omega, hk, hj, hr⟩]
theorem hp_set {S : List Int} {D : eD} {k j : Nat} {v : Int} (h8 : 8 ≤ k) (hr : ro (tg k) j = none) : (hp S D).set k (tg k, (ceF S D k).2.set j (.inl v)) = hp S (up D k j v) := by
  apply List.ext_getElem?
  intro i
  by_cases hi : i < 165
  · by_cases hik : i = k
    · subst hik
      rw [List.getElem?_set_self (by rw [hp_len]; exact hi), hp_get hi]
      congr 1
      unfold ceF
      congr 1
      apply List.ext_getElem?
      intro q
      rw [List.getElem?_map]
      by_cases hq : q < ln S i
      · rw [List.getElem?_range hq]
        by_cases hqj : q = j
        · subst hqj
          rw [List.getElem?_set_self (by simpa using hq)]
          simp [slF, hr, rd, up, show ¬ i < 8 by omega]
        · rw [List.getElem?_set_ne (fun z => hqj z.symm), List.getElem?_map, List.getElem?_range hq]
          simp [slF, rd, up, hqj]
      · rw [List.getElem?_eq_none (by simp; omega), List.getElem?_eq_none (by simp; omega)]
        rfl
    · rw [List.getElem?_set_ne (fun z => hik z.symm), hp_get hi, hp_get hi]
      congr 1
      unfold ceF
      congr 1
      apply List.map_congr_left
      intro q _
      simp [slF, rd, up, hik]
  · rw [List.getElem?_eq_none (by rw [List.length_set, hp_len]; omega), List.getElem?_eq_none (by rw [hp_len]; omega)]
/-! the rules, an instruction each -/
section WRULES
variable {y pc : Nat} {ls st : List eV} {h : eH} {Q : Option eV → eH → Prop} {S : List Int} {D : eD}
theorem w_if {c : Jvm.ClassFile.Cond} {off : Int} {tgt : Nat} {x : Int} (hd : decode (eB y) pc = .ok (.ifCond c off, 3)) (ht : (pc : Int) + off = (tgt : Int)) : wp y pc ls (.inl x :: st) h Q ↔ if eCmp c x 0 = true then wp y tgt ls st h Q else wp y (pc + 3) ls st h Q := by
  have h0 : (0 : Int) ≤ (pc : Int) + off := by omega
  have h1 : ((pc : Int) + off).toNat = tgt := by omega
  by_cases hc : eCmp c x 0 = true
  · rw [if_pos hc]
    exact wp_step hd (fun f => by simp only [exI, xIf, if_pos h0, if_pos hc, h1, if_true])
  · rw [if_neg hc]
    exact wp_step hd (fun f => by simp only [exI, xIf, if_pos h0, if_neg hc, if_true])
theorem w_icmp {c : Jvm.ClassFile.Cond} {off : Int} {tgt : Nat} {x z : Int} (hd : decode (eB y) pc = .ok (.if_icmp c off, 3)) (ht : (pc : Int) + off = (tgt : Int)) : wp y pc ls (.inl z :: .inl x :: st) h Q ↔ if eCmp c x z = true then wp y tgt ls st h Q else wp y (pc + 3) ls st h Q := by
  have h0 : (0 : Int) ≤ (pc : Int) + off := by omega
  have h1 : ((pc : Int) + off).toNat = tgt := by omega
  by_cases hc : eCmp c x z = true
  · rw [if_pos hc]
    exact wp_step hd (fun f => by simp only [exI, xIcmp, if_pos h0, if_pos hc, h1, if_true])
  · rw [if_neg hc]
    exact wp_step hd (fun f => by simp only [exI, xIcmp, if_pos h0, if_neg hc, if_true])
theorem ite_swap {P : Prop} [Decidable P] {A B : Prop} : (if ¬ P then A else B) ↔ if P then B else A := by
  by_cases h : P <;> simp [h]
theorem w_eq0 {off : Int} {tgt : Nat} {x : Int} (hd : decode (eB y) pc = .ok (.ifCond .eq off, 3)) (ht : (pc : Int) + off = (tgt : Int)) : wp y pc ls (.inl x :: st) h Q ↔ if x = 0 then wp y tgt ls st h Q else wp y (pc + 3) ls st h Q := by
  simpa only [eCmp, decide_eq_true_eq] using w_if (ls := ls) (st := st) (h := h) (Q := Q) (x := x) hd ht
theorem w_ne0 {off : Int} {tgt : Nat} {x : Int} (hd : decode (eB y) pc = .ok (.ifCond .ne off, 3)) (ht : (pc : Int) + off = (tgt : Int)) : wp y pc ls (.inl x :: st) h Q ↔ if x = 0 then wp y (pc + 3) ls st h Q else wp y tgt ls st h Q := by
  rw [w_if (ls := ls) (st := st) (h := h) (Q := Q) (x := x) hd ht]
  by_cases hx : x = 0 <;> simp [eCmp, hx]
theorem w_lt0 {off : Int} {tgt : Nat} {x : Int} (hd : decode (eB y) pc = .ok (.ifCond .lt off, 3)) (ht : (pc : Int) + off = (tgt : Int)) : wp y pc ls (.inl x :: st) h Q ↔ if x < 0 then wp y tgt ls st h Q else wp y (pc + 3) ls st h Q := by
  simpa only [eCmp, decide_eq_true_eq] using w_if (ls := ls) (st := st) (h := h) (Q := Q) (x := x) hd ht
theorem w_ge0 {off : Int} {tgt : Nat} {x : Int} (hd : decode (eB y) pc = .ok (.ifCond .ge off, 3)) (ht : (pc : Int) + off = (tgt : Int)) : wp y pc ls (.inl x :: st) h Q ↔ if x < 0 then wp y (pc + 3) ls st h Q else wp y tgt ls st h Q := by
  rw [w_if (ls := ls) (st := st) (h := h) (Q := Q) (x := x) hd ht]
  by_cases hx : x < 0
  · simp [eCmp, hx, Int.not_le.mpr hx]
  · simp [eCmp, hx, Int.not_lt.mp hx]
theorem w_gt0 {off : Int} {tgt : Nat} {x : Int} (hd : decode (eB y) pc = .ok (.ifCond .gt off, 3)) (ht : (pc : Int) + off = (tgt : Int)) : wp y pc ls (.inl x :: st) h Q ↔ if 0 < x then wp y tgt ls st h Q else wp y (pc + 3) ls st h Q := by
  simpa only [eCmp, decide_eq_true_eq] using w_if (ls := ls) (st := st) (h := h) (Q := Q) (x := x) hd ht
theorem w_le0 {off : Int} {tgt : Nat} {x : Int} (hd : decode (eB y) pc = .ok (.ifCond .le off, 3)) (ht : (pc : Int) + off = (tgt : Int)) : wp y pc ls (.inl x :: st) h Q ↔ if 0 < x then wp y (pc + 3) ls st h Q else wp y tgt ls st h Q := by
  rw [w_if (ls := ls) (st := st) (h := h) (Q := Q) (x := x) hd ht]
  by_cases hx : 0 < x
  · simp [eCmp, hx, Int.not_le.mpr hx]
  · simp [eCmp, hx, Int.not_lt.mp hx]
theorem w_ceq {off : Int} {tgt : Nat} {x z : Int} (hd : decode (eB y) pc = .ok (.if_icmp .eq off, 3)) (ht : (pc : Int) + off = (tgt : Int)) : wp y pc ls (.inl z :: .inl x :: st) h Q ↔ if x = z then wp y tgt ls st h Q else wp y (pc + 3) ls st h Q := by
  simpa only [eCmp, decide_eq_true_eq] using w_icmp (ls := ls) (st := st) (h := h) (Q := Q) (x := x) (z := z) hd ht
theorem w_cne {off : Int} {tgt : Nat} {x z : Int} (hd : decode (eB y) pc = .ok (.if_icmp .ne off, 3)) (ht : (pc : Int) + off = (tgt : Int)) : wp y pc ls (.inl z :: .inl x :: st) h Q ↔ if x = z then wp y (pc + 3) ls st h Q else wp y tgt ls st h Q := by
  rw [w_icmp (ls := ls) (st := st) (h := h) (Q := Q) (x := x) (z := z) hd ht]
  by_cases hx : x = z <;> simp [eCmp, hx]
theorem w_clt {off : Int} {tgt : Nat} {x z : Int} (hd : decode (eB y) pc = .ok (.if_icmp .lt off, 3)) (ht : (pc : Int) + off = (tgt : Int)) : wp y pc ls (.inl z :: .inl x :: st) h Q ↔ if x < z then wp y tgt ls st h Q else wp y (pc + 3) ls st h Q := by
  simpa only [eCmp, decide_eq_true_eq] using w_icmp (ls := ls) (st := st) (h := h) (Q := Q) (x := x) (z := z) hd ht
theorem w_cge {off : Int} {tgt : Nat} {x z : Int} (hd : decode (eB y) pc = .ok (.if_icmp .ge off, 3)) (ht : (pc : Int) + off = (tgt : Int)) : wp y pc ls (.inl z :: .inl x :: st) h Q ↔ if x < z then wp y (pc + 3) ls st h Q else wp y tgt ls st h Q := by
  rw [w_icmp (ls := ls) (st := st) (h := h) (Q := Q) (x := x) (z := z) hd ht]
  by_cases hx : x < z
  · simp [eCmp, hx, Int.not_le.mpr hx]
  · simp [eCmp, hx, Int.not_lt.mp hx]
theorem w_cgt {off : Int} {tgt : Nat} {x z : Int} (hd : decode (eB y) pc = .ok (.if_icmp .gt off, 3)) (ht : (pc : Int) + off = (tgt : Int)) : wp y pc ls (.inl z :: .inl x :: st) h Q ↔ if z < x then wp y tgt ls st h Q else wp y (pc + 3) ls st h Q := by
  simpa only [eCmp, decide_eq_true_eq] using w_icmp (ls := ls) (st := st) (h := h) (Q := Q) (x := x) (z := z) hd ht
theorem w_cle {off : Int} {tgt : Nat} {x z : Int} (hd : decode (eB y) pc = .ok (.if_icmp .le off, 3)) (ht : (pc : Int) + off = (tgt : Int)) : wp y pc ls (.inl z :: .inl x :: st) h Q ↔ if z < x then wp y (pc + 3) ls st h Q else wp y tgt ls st h Q := by
  rw [w_icmp (ls := ls) (st := st) (h := h) (Q := Q) (x := x) (z := z) hd ht]
  by_cases hx : z < x
  · simp [eCmp, hx, Int.not_le.mpr hx]
  · simp [eCmp, hx, Int.not_lt.mp hx]
theorem w_goto {off : Int} {tgt : Nat} (hd : decode (eB y) pc = .ok (.goto off, 3)) (ht : (pc : Int) + off = (tgt : Int)) : wp y pc ls st h Q ↔ wp y tgt ls st h Q :=
  wp_step hd (fun f => by
    have h0 : (0 : Int) ≤ (pc : Int) + off := by omega
    have h1 : ((pc : Int) + off).toNat = tgt := by omega
    simp only [exI, eJ, if_pos h0, h1, if_true])
theorem w_nnull {off : Int} {tgt a : Nat} (hd : decode (eB y) pc = .ok (.ifnonnull off, 3)) (ht : (pc : Int) + off = (tgt : Int)) (h0 : a ≠ 0) : wp y pc ls (.inr a :: st) h Q ↔ wp y tgt ls st h Q :=
  wp_step hd (fun f => by
    have h2 : (0 : Int) ≤ (pc : Int) + off := by omega
    have h1 : ((pc : Int) + off).toNat = tgt := by omega
    simp only [exI, xNul, eJ, if_pos h2, h1, if_true, h0, if_false])
theorem w_null {off : Int} {a : Nat} (hd : decode (eB y) pc = .ok (.ifnull off, 3)) (h0 : a ≠ 0) : wp y pc ls (.inr a :: st) h Q ↔ wp y (pc + 3) ls st h Q :=
  wp_step hd (fun f => by simp only [exI, xNul, if_true, h0, if_false, Bool.false_eq_true])
theorem w_const1 {n : Int} (hd : decode (eB y) pc = .ok (.iconst n, 1)) (hw : w32 n = n) : wp y pc ls st h Q ↔ wp y (pc + 1) ls (.inl n :: st) h Q := wp_step hd (fun f => by simp [exI, xPush, hw])
theorem w_const2 {n : Int} (hd : decode (eB y) pc = .ok (.bipush n, 2)) (hw : w32 n = n) (h8 : (Int8.ofInt n).toInt32 = Int32.ofInt n) : wp y pc ls st h Q ↔ wp y (pc + 2) ls (.inl n :: st) h Q := wp_step hd (fun f => by simp [exI, xPush, hw, h8])
theorem w_const3 {n : Int} (hd : decode (eB y) pc = .ok (.sipush n, 3)) (hw : w32 n = n) (h8 : (Int16.ofInt n).toInt32 = Int32.ofInt n) : wp y pc ls st h Q ↔ wp y (pc + 3) ls (.inl n :: st) h Q := wp_step hd (fun f => by simp [exI, xPush, hw, h8])
theorem w_ldc {n : Int} {k : Nat} (hd : decode (eB y) pc = .ok (.ldc k, 2)) (hk : eKk (eO y) k = some n) : wp y pc ls st h Q ↔ wp y (pc + 2) ls (.inl n :: st) h Q := wp_step hd (fun f => by simp [exI, xPush, hk])
theorem w_div {a b : Int} (hd : decode (eB y) pc = .ok (.idiv, 1)) (hb : b ≠ 0) : wp y pc ls (.inl b :: .inl a :: st) h Q ↔ wp y (pc + 1) ls (.inl (w32 (a.tdiv b)) :: st) h Q := wp_step hd (fun f => by simp [exI, xBin0, hb])
theorem w_rem {a b : Int} (hd : decode (eB y) pc = .ok (.irem, 1)) (hb : b ≠ 0) : wp y pc ls (.inl b :: .inl a :: st) h Q ↔ wp y (pc + 1) ls (.inl (w32 (a.tmod b)) :: st) h Q := wp_step hd (fun f => by simp [exI, xBin0, hb])
theorem w_stat {idx j : Nat} (hd : decode (eB y) pc = .ok (.getstatic idx, 3)) (hk : eSk (eO y) idx = some j) : wp y pc ls st h Q ↔ wp y (pc + 3) ls (.inr j :: st) h Q := wp_step hd (fun f => by simp [exI, hk])
theorem w_table {dflt lo hi : Int} {offs : Array Int} {len : Nat} {x : Int} (T : Nat → Nat) (hd : decode (eB y) pc = .ok (.tableswitch dflt lo hi offs, len)) (dt : Nat) (ht : (pc : Int) + dflt = (dt : Int)) (hT : ∀ i : Nat, lo + i ≤ hi → ∃ o, offs[i]? = some o ∧ (pc : Int) + o = (T i : Int)) :
    wp y pc ls (.inl x :: st) h Q ↔ if x < lo ∨ hi < x then wp y dt ls st h Q else wp y (T (x - lo).toNat) ls st h Q := by
  have h0 : (0 : Int) ≤ (pc : Int) + dflt := by omega
  have h1 : ((pc : Int) + dflt).toNat = dt := by omega
  by_cases hc : x < lo ∨ hi < x
  · rw [if_pos hc]
    exact wp_step hd (fun f => by simp only [exI, eJ, if_pos hc, if_pos h0, h1])
  · rw [if_neg hc]
    obtain ⟨o, ho, he⟩ := hT (x - lo).toNat (by omega)
    have h2 : (0 : Int) ≤ (pc : Int) + o := by omega
    have h3 : ((pc : Int) + o).toNat = T (x - lo).toNat := by omega
    exact wp_step hd (fun f => by simp only [exI, eJ, if_neg hc, ho, if_pos h2, h3])
theorem w_lookup {dflt : Int} {ps : Array (Int × Int)} {len tgt : Nat} {x : Int} (hd : decode (eB y) pc = .ok (.lookupswitch dflt ps, len)) (hp : (ps.toList.zip (ps.toList.drop 1)).all (fun (a, next) => a.1 < next.1) = true) (ht : (pc : Int) + Op.lookupswitch.offset ps.toList dflt x = (tgt : Int)) :
    wp y pc ls (.inl x :: st) h Q ↔ wp y tgt ls st h Q := by
  have h2 : (0 : Int) ≤ (pc : Int) + Op.lookupswitch.offset ps.toList dflt x := by omega
  have h3 : ((pc : Int) + Op.lookupswitch.offset ps.toList dflt x).toNat = tgt := by omega
  exact wp_step hd (fun f => by simp only [exI, eJ, if_pos hp, if_pos h2, h3])
/-! calls -/
theorem w_callS {idx y2 kd : Nat} {vs : List eV} (hd : decode (eB y) pc = .ok (.invokestatic idx, 3)) (hk : eCk (eO y) idx = some (kd, y2)) (hkd : kd = 0 ∨ kd = 3) (hn : eA y2 = vs.length) (hr : eRoom y y2 = true) (hl : vs.length ≤ eN y2) (hst : st.length ≤ 8) :
    wp y pc ls (vs.reverse ++ st) h Q ↔ wp y2 0 (eLoc y2 vs) [] h (kont y (pc + 3) ls st Q) := by
  refine wp_call hd (fun f => ?_) ⟨hr, hl, hst⟩
  have h1 : eA y2 ≤ (vs.reverse ++ st).length := by rw [List.length_append, List.length_reverse]; omega
  have h2 : (vs.reverse ++ st).take (eA y2) = vs.reverse := List.take_left' (by rw [List.length_reverse]; exact hn.symm)
  have h3 : (vs.reverse ++ st).drop (eA y2) = st := List.drop_left' (by rw [List.length_reverse]; exact hn.symm)
  simp only [exI, xCall, hk, if_true]
  rw [if_pos ⟨hkd, h1⟩, h2, h3, List.reverse_reverse]
theorem w_callV {idx y2 b : Nat} {vs : List eV} (hd : decode (eB y) pc = .ok (.invokevirtual idx, 3)) (hk : eCk (eO y) idx = some (1, y2)) (hn : eA y2 = vs.length) (hr : eRoom y y2 = true) (hl : vs.length + 1 ≤ eN y2) (hst : st.length ≤ 8) (t : Nat) (ht : eG (eO y2) = t) (ht9 : t < 100) (hb : tg b = t) :
    wp y pc ls (vs.reverse ++ .inr b :: st) (hp S D) Q ↔ wp y2 0 (eLoc y2 (.inr b :: vs)) [] (hp S D) (kont y (pc + 3) ls st Q) := by
  have b1 : b < 165 := tg_lt (by omega)
  have b8 : 8 ≤ b := tg_hi (by omega) (by omega)
  refine wp_call hd (fun f => ?_) ⟨hr, by simpa using hl, hst⟩
  have h1 : eA y2 ≤ (vs.reverse ++ .inr b :: st).length := by rw [List.length_append, List.length_reverse]; omega
  have h2 : (vs.reverse ++ .inr b :: st).take (eA y2) = vs.reverse := List.take_left' (by rw [List.length_reverse]; exact hn.symm)
  have h3 : (vs.reverse ++ .inr b :: st).drop (eA y2) = .inr b :: st := List.drop_left' (by rw [List.length_reverse]; exact hn.symm)
  simp only [exI, xCall, hk, if_true, Nat.one_ne_zero, if_false]
  rw [if_pos ⟨trivial, h1⟩, h2, h3]
  simp only [hp_get b1]
  rw [if_pos ⟨by rw [ht]; exact hb, b8⟩, List.reverse_reverse]
theorem w_callI {idx y2 b : Nat} {vs : List eV} (hd : decode (eB y) pc = .ok (.invokespecial idx, 3)) (hk : eCk (eO y) idx = some (2, y2)) (hn : eA y2 = vs.length) (hr : eRoom y y2 = true) (hl : vs.length + 1 ≤ eN y2) (hst : st.length ≤ 8) (b8 : 8 ≤ b) :
    wp y pc ls (vs.reverse ++ .inr b :: st) h Q ↔ wp y2 0 (eLoc y2 (.inr b :: vs)) [] h (kont y (pc + 3) ls st Q) := by
  refine wp_call hd (fun f => ?_) ⟨hr, by simpa using hl, hst⟩
  have h1 : eA y2 ≤ (vs.reverse ++ .inr b :: st).length := by rw [List.length_append, List.length_reverse]; omega
  have h2 : (vs.reverse ++ .inr b :: st).take (eA y2) = vs.reverse := List.take_left' (by rw [List.length_reverse]; exact hn.symm)
  have h3 : (vs.reverse ++ .inr b :: st).drop (eA y2) = .inr b :: st := List.drop_left' (by rw [List.length_reverse]; exact hn.symm)
  simp only [exI, xCall, hk, if_true]
  rw [if_neg (by decide), if_neg (by decide), if_pos ⟨trivial, h1⟩, h2, h3]
  simp only [if_pos b8, List.reverse_reverse]
theorem w_callO {idx y2 b : Nat} (hd : decode (eB y) pc = .ok (.invokespecial idx, 3)) (hk : eCk (eO y) idx = some (4, y2)) (hst : st.length ≤ 8 ∧ 1 ≤ eF y ∧ 20 ≤ eL y) (b8 : 8 ≤ b) : wp y pc ls (.inr b :: st) h Q ↔ wp y (pc + 3) ls st h Q := by
  refine wp_step hd (fun f => ?_)
  simp only [exI, xCall, hk, if_true]
  rw [if_neg (by decide), if_neg (by decide), if_neg (by simp), if_pos ⟨b8, hst⟩]
/-! fields and rows of the made cells -/
theorem w_getI {idx a t j c : Nat} (hd : decode (eB y) pc = .ok (.getfield idx, 3)) (hk : eFk (eO y) idx = some (t, j, c)) (ht9 : t < 100) (hr : ro t j = none) (hj : ∀ k, tg k = t → j < ln S k) (ha : tg a = t) : wp y pc ls (.inr a :: st) (hp S D) Q ↔ wp y (pc + 3) ls (.inl (D a j) :: st) (hp S D) Q := by
  have b1 : a < 165 := tg_lt (by omega)
  have b8 : 8 ≤ a := tg_hi (by omega) (by omega)
  refine wp_step hd (fun f => ?_)
  simp only [exI, xGet, hk, hp_get b1, if_true]
  rw [if_pos ⟨ha, b8⟩]
  simp only [ce_get (D := D) (hj a ha), slF, ha, hr, rd, if_neg (Nat.not_lt.mpr b8)]
theorem w_getR {idx a t j c o : Nat} (hd : decode (eB y) pc = .ok (.getfield idx, 3)) (hk : eFk (eO y) idx = some (t, j, c)) (ht9 : t < 100) (hr : ro t j = some o) (hj : ∀ k, tg k = t → j < ln S k) (ha : tg a = t) : wp y pc ls (.inr a :: st) (hp S D) Q ↔ wp y (pc + 3) ls (.inr (a + o) :: st) (hp S D) Q := by
  have b1 : a < 165 := tg_lt (by omega)
  have b8 : 8 ≤ a := tg_hi (by omega) (by omega)
  refine wp_step hd (fun f => ?_)
  simp only [exI, xGet, hk, hp_get b1, if_true]
  rw [if_pos ⟨ha, b8⟩]
  simp only [ce_get (D := D) (hj a ha), slF, ha, hr]
theorem w_put {idx a t j c : Nat} {v : Int} (hd : decode (eB y) pc = .ok (.putfield idx, 3)) (hk : eFk (eO y) idx = some (t, j, c)) (hfin : eFin (t, j, c) = false) (ht9 : t < 100) (hr : ro t j = none) (hj : ∀ k, tg k = t → j < ln S k) (hc : c = 0 ∨ (c = 1 ∧ (v = 0 ∨ v = 1))) (ha : tg a = t) : wp y pc ls (.inl v :: .inr a :: st) (hp S D) Q ↔ wp y (pc + 3) ls st (hp S (up D a j v)) Q := by
  have b1 : a < 165 := tg_lt (by omega)
  have b8 : 8 ≤ a := tg_hi (by omega) (by omega)
  refine wp_step hd (fun f => ?_)
  simp only [exI, xPut, hk, hp_get b1, if_true]
  have hfit : eFit c (.inl v) = true := by
    rcases hc with rfl | ⟨rfl, rfl | rfl⟩ <;> rfl
  rw [if_pos ⟨ha, b8, by rw [ce_len]; exact hj a ha, hfit, Or.inl hfin⟩]
  have e := hp_set (S := S) (D := D) (k := a) (j := j) (v := v) b8 (by rw [ha]; exact hr)
  rw [← e]
  rfl
theorem w_len {a : Nat} (hd : decode (eB y) pc = .ok (.arraylength, 1)) (ha : tg a = 100 ∨ tg a = 101 ∨ tg a = 102 ∨ tg a = 103) (hl : ln S a < 2147483648) : wp y pc ls (.inr a :: st) (hp S D) Q ↔ wp y (pc + 1) ls (.inl (ln S a) :: st) (hp S D) Q := by
  have b1 : a < 165 := tg_lt (by omega)
  have b0 : a ≠ 0 := by rintro rfl; revert ha; decide
  refine wp_step hd (fun f => ?_)
  simp only [exI, xAlen, hp_get b1, if_true]
  have h1 : eArr a (ceF S D a).1 = true := by
    show eArr a (tg a) = true
    rcases ha with z | z | z | z
    · rw [z]; rfl
    all_goals
      have b8 : 8 ≤ a := tg_hi (by omega) (by omega)
      rw [z]
      simp [eArr, b8]
  rw [if_pos ⟨h1, b0, by rw [ce_len]; exact hl⟩, ce_len]
theorem ro100 (j : Nat) : ro 100 j = none := rfl
theorem ro101 (j : Nat) : ro 101 j = none := rfl
theorem w_iald {a : Nat} {i : Int} (hd : decode (eB y) pc = .ok (.iaload, 1)) (ha : tg a = 100) (h0 : 0 ≤ i) (hi : i < ln S a) : wp y pc ls (.inl i :: .inr a :: st) (hp S D) Q ↔ wp y (pc + 1) ls (.inl (rd S D a i.toNat) :: st) (hp S D) Q := by
  have b1 : a < 165 := tg_lt (by omega)
  have b0 : a ≠ 0 := by rintro rfl; revert ha; decide
  refine wp_step hd (fun f => ?_)
  simp only [exI, xIald, hp_get b1, if_true]
  rw [if_pos ⟨ha, h0, b0⟩]
  simp only [ce_get (D := D) (show i.toNat < ln S a by omega), slF, ha, ro100]
theorem w_cald {a : Nat} {i : Int} (hd : decode (eB y) pc = .ok (.caload, 1)) (ha : tg a = 101) (h0 : 0 ≤ i) (hi : i < ln S a) : wp y pc ls (.inl i :: .inr a :: st) (hp S D) Q ↔ wp y (pc + 1) ls (.inl (D a i.toNat) :: st) (hp S D) Q := by
  have b1 : a < 165 := tg_lt (by omega)
  have b8 : 8 ≤ a := tg_hi (by omega) (by omega)
  refine wp_step hd (fun f => ?_)
  simp only [exI, if_true, if_pos b8, xIald, hp_get b1]
  rw [if_pos ⟨ha, h0, by omega⟩]
  simp only [ce_get (D := D) (show i.toNat < ln S a by omega), slF, ha, ro101, rd, if_neg (Nat.not_lt.mpr b8)]
theorem w_aald {a : Nat} {i : Int} (hd : decode (eB y) pc = .ok (.aaload, 1)) (ha : tg a = 102 ∨ tg a = 103) (h0 : 0 ≤ i) (hi : i < ln S a) : wp y pc ls (.inl i :: .inr a :: st) (hp S D) Q ↔ wp y (pc + 1) ls (.inr (a + (if tg a = 102 then 1 + i.toNat else 1 + 20 * i.toNat)) :: st) (hp S D) Q := by
  have b1 : a < 165 := tg_lt (by omega)
  have b8 : 8 ≤ a := tg_hi (by omega) (by omega)
  refine wp_step hd (fun f => ?_)
  simp only [exI, xAald, hp_get b1, if_true]
  rw [if_pos ⟨ha, h0, b8⟩]
  rcases ha with z | z <;> simp only [ce_get (D := D) (show i.toNat < ln S a by omega), slF, z, ro] <;> rfl
theorem w_iast {a : Nat} {i v : Int} (hd : decode (eB y) pc = .ok (.iastore, 1)) (ha : tg a = 100) (b8 : 8 ≤ a) (h0 : 0 ≤ i) (hi : i < ln S a) : wp y pc ls (.inl v :: .inl i :: .inr a :: st) (hp S D) Q ↔ wp y (pc + 1) ls st (hp S (up D a i.toNat v)) Q := by
  have b1 : a < 165 := tg_lt (by omega)
  refine wp_step hd (fun f => ?_)
  simp only [exI, xIastore, hp_get b1, if_true]
  rw [if_pos ⟨ha, h0, by rw [ce_len]; omega, b8, fun z => by cases z⟩]
  have e := hp_set (S := S) (D := D) (k := a) (j := i.toNat) (v := v) b8 (by rw [ha]; rfl)
  rw [← e]
  rfl
theorem w_cast {a : Nat} {i v : Int} (hd : decode (eB y) pc = .ok (.castore, 1)) (ha : tg a = 101) (h0 : 0 ≤ i) (hi : i < ln S a) (hv : 0 ≤ v ∧ v < 65536) : wp y pc ls (.inl v :: .inl i :: .inr a :: st) (hp S D) Q ↔ wp y (pc + 1) ls st (hp S (up D a i.toNat v)) Q := by
  have b1 : a < 165 := tg_lt (by omega)
  have b8 : 8 ≤ a := tg_hi (by omega) (by omega)
  refine wp_step hd (fun f => ?_)
  simp only [exI, xIastore, hp_get b1, if_true]
  rw [if_pos ⟨ha, h0, by rw [ce_len]; omega, b8, fun _ => hv⟩]
  have e := hp_set (S := S) (D := D) (k := a) (j := i.toNat) (v := v) b8 (by rw [ha]; rfl)
  rw [← e]
  rfl
end WRULES
end
