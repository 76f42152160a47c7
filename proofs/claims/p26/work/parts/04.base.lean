/-! checks of the tables against the Statement's words; the words that every method is given -/
def eWs : List Cond := lw_tbl.filter goodWord
def eNest : Cond → Bool
  | .methodLinkNest _ _ _ _ => true
  | .fieldLinkNest _ _ _ _ _ _ => true
  | _ => false
def eNw : List Cond := lw_tbl.filter eNest
theorem eWs_of {i : Nat} {w : Cond} (h : lw_tbl[i]? = some w) (hg : goodWord w = true) : w ∈ eWs := List.mem_filter.mpr ⟨List.mem_of_getElem? h, hg⟩
theorem eNw_of {i : Nat} {w : Cond} (h : lw_tbl[i]? = some w) (hg : eNest w = true) : w ∈ eNw := List.mem_filter.mpr ⟨List.mem_of_getElem? h, hg⟩
theorem eWs_good {w : Cond} (h : w ∈ eWs) : goodWord w = true := (List.mem_filter.mp h).2
def eRefTy : Option FieldType → Bool
  | some (.object _) => true
  | some (.array _) => true
  | _ => false
def eAt (i : Nat) (w : Cond) : Bool := decide (lw_tbl[i]? = some w) && goodWord w
theorem eAt_of {i : Nat} {w : Cond} (h : eAt i w = true) : w ∈ eWs := by
  simp only [eAt, Bool.and_eq_true, decide_eq_true_eq] at h
  exact eWs_of h.1 h.2
def eFchk (e : Nat × Nat × Nat × Nat × Nat × Nat) : Bool := match vwCl[e.2.2.1]? with
  | some q => decide (e.2.2.2.1 < q.2.2) && eAt e.2.2.2.2.2 (.fieldLink (eR e.1) e.2.1 q.1 (q.2.1 e.2.2.2.1).2.1 (q.2.1 e.2.2.2.1).2.2.1) && decide ((q.2.1 e.2.2.2.1).1 = q.1) &&
      (if e.2.2.2.2.1 = 0 then decide (parseFieldDescriptor (q.2.1 e.2.2.2.1).2.2.1 = some .int) else if e.2.2.2.2.1 = 1 then decide (parseFieldDescriptor (q.2.1 e.2.2.2.1).2.2.1 = some .boolean) else eRefTy (parseFieldDescriptor (q.2.1 e.2.2.2.1).2.2.1))
  | none => false
set_option maxRecDepth 100000 in
theorem eFl_ok : eFl.all eFchk = true := by decide +kernel
def eMchk (y : Nat) : Bool := match eMp[y]? with
  | some q => eAt q.1 (if eSt.getD y false then .static (eY y) else .instanceMethod (eY y)) && (eSt.getD y false || eI y || eAt q.2.1 (.selects (eY y).cls (eY y) (eY y))) && eAt q.2.2.1 (.initialized (eY y).cls) &&
      decide ((parseMethodDescriptor (eY y).desc).map (fun d => d.parameters.length) = some (eA y)) && plainFor (eY y) && decide ((eY y).cls ≠ "java/lang/invoke/MethodHandle") && decide ((eY y).cls ≠ "java/lang/invoke/VarHandle") && decide (eR (eO y) = (eY y).cls) && decide (eI y = true → (eY y).name = "<init>") && decide (eI y = true → eT y = none)
  | none => false
set_option maxRecDepth 100000 in
theorem eM_ok : (List.range eMp.length).all eMchk = true := by decide +kernel
set_option maxRecDepth 100000 in
theorem eK_0 : eAt 42 (.code (eY 0) (eB 0) (eN 0) (eT 0)) = true := by decide +kernel
set_option maxRecDepth 100000 in
theorem eK_1 : eAt 327 (.code (eY 1) (eB 1) (eN 1) (eT 1)) = true := by decide +kernel
set_option maxRecDepth 100000 in
theorem eK_2 : eAt 372 (.code (eY 2) (eB 2) (eN 2) (eT 2)) = true := by decide +kernel
set_option maxRecDepth 100000 in
theorem eK_3 : eAt 458 (.code (eY 3) (eB 3) (eN 3) (eT 3)) = true := by decide +kernel
set_option maxRecDepth 100000 in
theorem eK_4 : eAt 454 (.code (eY 4) (eB 4) (eN 4) (eT 4)) = true := by decide +kernel
set_option maxRecDepth 100000 in
theorem eK_5 : eAt 469 (.code (eY 5) (eB 5) (eN 5) (eT 5)) = true := by decide +kernel
set_option maxRecDepth 100000 in
theorem eK_6 : eAt 483 (.code (eY 6) (eB 6) (eN 6) (eT 6)) = true := by decide +kernel
set_option maxRecDepth 100000 in
theorem eK_7 : eAt 529 (.code (eY 7) (eB 7) (eN 7) (eT 7)) = true := by decide +kernel
set_option maxRecDepth 100000 in
theorem eK_8 : eAt 524 (.code (eY 8) (eB 8) (eN 8) (eT 8)) = true := by decide +kernel
set_option maxRecDepth 100000 in
theorem eK_9 : eAt 504 (.code (eY 9) (eB 9) (eN 9) (eT 9)) = true := by decide +kernel
set_option maxRecDepth 100000 in
theorem eK_10 : eAt 534 (.code (eY 10) (eB 10) (eN 10) (eT 10)) = true := by decide +kernel
set_option maxRecDepth 100000 in
theorem eK_11 : eAt 541 (.code (eY 11) (eB 11) (eN 11) (eT 11)) = true := by decide +kernel
set_option maxRecDepth 100000 in
theorem eK_12 : eAt 548 (.code (eY 12) (eB 12) (eN 12) (eT 12)) = true := by decide +kernel
set_option maxRecDepth 100000 in
theorem eK_13 : eAt 554 (.code (eY 13) (eB 13) (eN 13) (eT 13)) = true := by decide +kernel
set_option maxRecDepth 100000 in
theorem eK_14 : eAt 558 (.code (eY 14) (eB 14) (eN 14) (eT 14)) = true := by decide +kernel
set_option maxRecDepth 100000 in
theorem eK_15 : eAt 144 (.code (eY 15) (eB 15) (eN 15) (eT 15)) = true := by decide +kernel
set_option maxRecDepth 100000 in
theorem eK_16 : eAt 357 (.code (eY 16) (eB 16) (eN 16) (eT 16)) = true := by decide +kernel
set_option maxRecDepth 100000 in
theorem eK_17 : eAt 508 (.code (eY 17) (eB 17) (eN 17) (eT 17)) = true := by decide +kernel
set_option maxRecDepth 100000 in
theorem eK_18 : eAt 645 (.code (eY 18) (eB 18) (eN 18) (eT 18)) = true := by decide +kernel
set_option maxRecDepth 100000 in
theorem eK_19 : eAt 223 (.code (eY 19) (eB 19) (eN 19) (eT 19)) = true := by decide +kernel
set_option maxRecDepth 100000 in
theorem eK_20 : eAt 316 (.code (eY 20) (eB 20) (eN 20) (eT 20)) = true := by decide +kernel
set_option maxRecDepth 100000 in
theorem eK_21 : eAt 568 (.code (eY 21) (eB 21) (eN 21) (eT 21)) = true := by decide +kernel
set_option maxRecDepth 100000 in
theorem eK_22 : eAt 320 (.code (eY 22) (eB 22) (eN 22) (eT 22)) = true := by decide +kernel
set_option maxRecDepth 100000 in
theorem eK_23 : eAt 60 (.code (eY 23) (eB 23) (eN 23) (eT 23)) = true := by decide +kernel
set_option maxRecDepth 100000 in
theorem eK_24 : eAt 392 (.code (eY 24) (eB 24) (eN 24) (eT 24)) = true := by decide +kernel
set_option maxRecDepth 100000 in
theorem eK_25 : eAt 407 (.code (eY 25) (eB 25) (eN 25) (eT 25)) = true := by decide +kernel
set_option maxRecDepth 100000 in
theorem eK_26 : eAt 348 (.code (eY 26) (eB 26) (eN 26) (eT 26)) = true := by decide +kernel
set_option maxRecDepth 100000 in
theorem eK_27 : eAt 388 (.code (eY 27) (eB 27) (eN 27) (eT 27)) = true := by decide +kernel
set_option maxRecDepth 100000 in
theorem eK_28 : eAt 479 (.code (eY 28) (eB 28) (eN 28) (eT 28)) = true := by decide +kernel
set_option maxRecDepth 100000 in
theorem eK_29 : eAt 474 (.code (eY 29) (eB 29) (eN 29) (eT 29)) = true := by decide +kernel
set_option maxRecDepth 100000 in
theorem eK_30 : eAt 518 (.code (eY 30) (eB 30) (eN 30) (eT 30)) = true := by decide +kernel
set_option maxRecDepth 100000 in
theorem eK_31 : eAt 666 (.code (eY 31) (eB 31) (eN 31) (eT 31)) = true := by decide +kernel
set_option maxRecDepth 100000 in
theorem eK_32 : eAt 498 (.code (eY 32) (eB 32) (eN 32) (eT 32)) = true := by decide +kernel
set_option maxRecDepth 100000 in
theorem eK_33 : eAt 487 (.code (eY 33) (eB 33) (eN 33) (eT 33)) = true := by decide +kernel
set_option maxRecDepth 100000 in
theorem eK_34 : eAt 494 (.code (eY 34) (eB 34) (eN 34) (eT 34)) = true := by decide +kernel
set_option maxRecDepth 100000 in
theorem eK_35 : eAt 119 (.code (eY 35) (eB 35) (eN 35) (eT 35)) = true := by decide +kernel
set_option maxRecDepth 100000 in
theorem eK_36 : eAt 352 (.code (eY 36) (eB 36) (eN 36) (eT 36)) = true := by decide +kernel
set_option maxRecDepth 100000 in
theorem eK_37 : eAt 720 (.code (eY 37) (eB 37) (eN 37) (eT 37)) = true := by decide +kernel
set_option maxRecDepth 100000 in
theorem eK_38 : eAt 439 (.code (eY 38) (eB 38) (eN 38) (eT 38)) = true := by decide +kernel
set_option maxRecDepth 100000 in
theorem eK_39 : eAt 435 (.code (eY 39) (eB 39) (eN 39) (eT 39)) = true := by decide +kernel
set_option maxRecDepth 100000 in
theorem eK_40 : eAt 444 (.code (eY 40) (eB 40) (eN 40) (eT 40)) = true := by decide +kernel
set_option maxRecDepth 100000 in
theorem eK_41 : eAt 632 (.code (eY 41) (eB 41) (eN 41) (eT 41)) = true := by decide +kernel
set_option maxRecDepth 100000 in
theorem eK_42 : eAt 636 (.code (eY 42) (eB 42) (eN 42) (eT 42)) = true := by decide +kernel
set_option maxRecDepth 100000 in
theorem eK_43 : eAt 243 (.code (eY 43) (eB 43) (eN 43) (eT 43)) = true := by decide +kernel
set_option maxRecDepth 100000 in
theorem eK_44 : eAt 708 (.code (eY 44) (eB 44) (eN 44) (eT 44)) = true := by decide +kernel
set_option maxRecDepth 100000 in
theorem eK_45 : eAt 716 (.code (eY 45) (eB 45) (eN 45) (eT 45)) = true := by decide +kernel
set_option maxRecDepth 100000 in
theorem eK_46 : eAt 724 (.code (eY 46) (eB 46) (eN 46) (eT 46)) = true := by decide +kernel
set_option maxRecDepth 100000 in
theorem eK_47 : eAt 728 (.code (eY 47) (eB 47) (eN 47) (eT 47)) = true := by decide +kernel
set_option maxRecDepth 100000 in
theorem eK_48 : eAt 732 (.code (eY 48) (eB 48) (eN 48) (eT 48)) = true := by decide +kernel
set_option maxRecDepth 100000 in
theorem eK_49 : eAt 737 (.code (eY 49) (eB 49) (eN 49) (eT 49)) = true := by decide +kernel
set_option maxRecDepth 100000 in
theorem eK_50 : eAt 742 (.code (eY 50) (eB 50) (eN 50) (eT 50)) = true := by decide +kernel
set_option maxRecDepth 100000 in
theorem eK_51 : eAt 48 (.code (eY 51) (eB 51) (eN 51) (eT 51)) = true := by decide +kernel
set_option maxRecDepth 100000 in
theorem eK_52 : eAt 361 (.code (eY 52) (eB 52) (eN 52) (eT 52)) = true := by decide +kernel
set_option maxRecDepth 100000 in
theorem eK_53 : eAt 330 (.code (eY 53) (eB 53) (eN 53) (eT 53)) = true := by decide +kernel
set_option maxRecDepth 100000 in
theorem eK_54 : eAt 53 (.code (eY 54) (eB 54) (eN 54) (eT 54)) = true := by decide +kernel
set_option maxRecDepth 100000 in
theorem eK_55 : eAt 340 (.code (eY 55) (eB 55) (eN 55) (eT 55)) = true := by decide +kernel
set_option maxRecDepth 100000 in
theorem eK_56 : eAt 344 (.code (eY 56) (eB 56) (eN 56) (eT 56)) = true := by decide +kernel
set_option maxRecDepth 100000 in
theorem eK_57 : eAt 403 (.code (eY 57) (eB 57) (eN 57) (eT 57)) = true := by decide +kernel
set_option maxRecDepth 100000 in
theorem eK_58 : eAt 415 (.code (eY 58) (eB 58) (eN 58) (eT 58)) = true := by decide +kernel
set_option maxRecDepth 100000 in
theorem eK_59 : eAt 419 (.code (eY 59) (eB 59) (eN 59) (eT 59)) = true := by decide +kernel
set_option maxRecDepth 100000 in
theorem eK_60 : eAt 463 (.code (eY 60) (eB 60) (eN 60) (eT 60)) = true := by decide +kernel
set_option maxRecDepth 100000 in
theorem eK_61 : eAt 514 (.code (eY 61) (eB 61) (eN 61) (eT 61)) = true := by decide +kernel
set_option maxRecDepth 100000 in
theorem eK_62 : eAt 675 (.code (eY 62) (eB 62) (eN 62) (eT 62)) = true := by decide +kernel
set_option maxRecDepth 100000 in
theorem eK_63 : eAt 679 (.code (eY 63) (eB 63) (eN 63) (eT 63)) = true := by decide +kernel
set_option maxRecDepth 100000 in
theorem eK_64 : eAt 594 (.code (eY 64) (eB 64) (eN 64) (eT 64)) = true := by decide +kernel
set_option maxRecDepth 100000 in
theorem eK_65 : eAt 600 (.code (eY 65) (eB 65) (eN 65) (eT 65)) = true := by decide +kernel
set_option maxRecDepth 100000 in
theorem eK_66 : eAt 605 (.code (eY 66) (eB 66) (eN 66) (eT 66)) = true := by decide +kernel
set_option maxRecDepth 100000 in
theorem eK_67 : eAt 34 (.code (eY 67) (eB 67) (eN 67) (eT 67)) = true := by decide +kernel
set_option maxRecDepth 100000 in
theorem eK_68 : eAt 300 (.code (eY 68) (eB 68) (eN 68) (eT 68)) = true := by decide +kernel
set_option maxRecDepth 100000 in
theorem eK_69 : eAt 365 (.code (eY 69) (eB 69) (eN 69) (eT 69)) = true := by decide +kernel
set_option maxRecDepth 100000 in
theorem eK_70 : eAt 377 (.code (eY 70) (eB 70) (eN 70) (eT 70)) = true := by decide +kernel
set_option maxRecDepth 100000 in
theorem eK_71 : eAt 399 (.code (eY 71) (eB 71) (eN 71) (eT 71)) = true := by decide +kernel
set_option maxRecDepth 100000 in
theorem eK_72 : eAt 411 (.code (eY 72) (eB 72) (eN 72) (eT 72)) = true := by decide +kernel
set_option maxRecDepth 100000 in
theorem eK_73 : eAt 424 (.code (eY 73) (eB 73) (eN 73) (eT 73)) = true := by decide +kernel
set_option maxRecDepth 100000 in
theorem eK_74 : eAt 431 (.code (eY 74) (eB 74) (eN 74) (eT 74)) = true := by decide +kernel
set_option maxRecDepth 100000 in
theorem eK_75 : eAt 712 (.code (eY 75) (eB 75) (eN 75) (eT 75)) = true := by decide +kernel
set_option maxRecDepth 100000 in
theorem eK_76 : eAt 449 (.code (eY 76) (eB 76) (eN 76) (eT 76)) = true := by decide +kernel
set_option maxRecDepth 100000 in
theorem eK_77 : eAt 704 (.code (eY 77) (eB 77) (eN 77) (eT 77)) = true := by decide +kernel
set_option maxRecDepth 100000 in
theorem eK_78 : eAt 771 (.code (eY 78) (eB 78) (eN 78) (eT 78)) = true := by decide +kernel
set_option maxRecDepth 100000 in
theorem eK_79 : eAt 564 (.code (eY 79) (eB 79) (eN 79) (eT 79)) = true := by decide +kernel
set_option maxRecDepth 100000 in
theorem eK_80 : eAt 572 (.code (eY 80) (eB 80) (eN 80) (eT 80)) = true := by decide +kernel
set_option maxRecDepth 100000 in
theorem eK_81 : eAt 577 (.code (eY 81) (eB 81) (eN 81) (eT 81)) = true := by decide +kernel
set_option maxRecDepth 100000 in
theorem eK_82 : eAt 622 (.code (eY 82) (eB 82) (eN 82) (eT 82)) = true := by decide +kernel
set_option maxRecDepth 100000 in
theorem eK_83 : eAt 581 (.code (eY 83) (eB 83) (eN 83) (eT 83)) = true := by decide +kernel
set_option maxRecDepth 100000 in
theorem eK_84 : eAt 660 (.code (eY 84) (eB 84) (eN 84) (eT 84)) = true := by decide +kernel
set_option maxRecDepth 100000 in
theorem eK_85 : eAt 687 (.code (eY 85) (eB 85) (eN 85) (eT 85)) = true := by decide +kernel
set_option maxRecDepth 100000 in
theorem eK_86 : eAt 671 (.code (eY 86) (eB 86) (eN 86) (eT 86)) = true := by decide +kernel
set_option maxRecDepth 100000 in
theorem eK_87 : eAt 628 (.code (eY 87) (eB 87) (eN 87) (eT 87)) = true := by decide +kernel
set_option maxRecDepth 100000 in
theorem eK_88 : eAt 641 (.code (eY 88) (eB 88) (eN 88) (eT 88)) = true := by decide +kernel
set_option maxRecDepth 100000 in
theorem eK_89 : eAt 590 (.code (eY 89) (eB 89) (eN 89) (eT 89)) = true := by decide +kernel
set_option maxRecDepth 100000 in
theorem eK_90 : eAt 650 (.code (eY 90) (eB 90) (eN 90) (eT 90)) = true := by decide +kernel
set_option maxRecDepth 100000 in
theorem eK_91 : eAt 307 (.code (eY 91) (eB 91) (eN 91) (eT 91)) = true := by decide +kernel
set_option maxRecDepth 100000 in
theorem eK_92 : eAt 303 (.code (eY 92) (eB 92) (eN 92) (eT 92)) = true := by decide +kernel
set_option maxRecDepth 100000 in
theorem eK_93 : eAt 368 (.code (eY 93) (eB 93) (eN 93) (eT 93)) = true := by decide +kernel
set_option maxRecDepth 100000 in
theorem eK_94 : eAt 380 (.code (eY 94) (eB 94) (eN 94) (eT 94)) = true := by decide +kernel
set_option maxRecDepth 100000 in
theorem eK_95 : eAt 383 (.code (eY 95) (eB 95) (eN 95) (eT 95)) = true := by decide +kernel
set_option maxRecDepth 100000 in
theorem eK_96 : eAt 427 (.code (eY 96) (eB 96) (eN 96) (eT 96)) = true := by decide +kernel
set_option maxRecDepth 100000 in
theorem eK_97 : eAt 584 (.code (eY 97) (eB 97) (eN 97) (eT 97)) = true := by decide +kernel
set_option maxRecDepth 100000 in
theorem eK_98 : eAt 323 (.code (eY 98) (eB 98) (eN 98) (eT 98)) = true := by decide +kernel
set_option maxRecDepth 100000 in
theorem eK_99 : eAt 537 (.code (eY 99) (eB 99) (eN 99) (eT 99)) = true := by decide +kernel
set_option maxRecDepth 100000 in
theorem eK_100 : eAt 333 (.code (eY 100) (eB 100) (eN 100) (eT 100)) = true := by decide +kernel
set_option maxRecDepth 100000 in
theorem eK_101 : eAt 608 (.code (eY 101) (eB 101) (eN 101) (eT 101)) = true := by decide +kernel
set_option maxRecDepth 100000 in
theorem eK_102 : eAt 612 (.code (eY 102) (eB 102) (eN 102) (eT 102)) = true := by decide +kernel
set_option maxRecDepth 100000 in
theorem eK_103 : eAt 616 (.code (eY 103) (eB 103) (eN 103) (eT 103)) = true := by
  have h : lw_tbl[616]? = some (.code (eY 103) (eB 103) (eN 103) (eT 103)) := rfl
  have g : goodWord (.code (eY 103) (eB 103) (eN 103) (eT 103)) = true := rfl
  unfold eAt
  rw [g, Bool.and_true]
  exact decide_eq_true h
set_option maxRecDepth 100000 in
theorem eK_104 : eAt 656 (.code (eY 104) (eB 104) (eN 104) (eT 104)) = true := by
  have h : lw_tbl[656]? = some (.code (eY 104) (eB 104) (eN 104) (eT 104)) := rfl
  have g : goodWord (.code (eY 104) (eB 104) (eN 104) (eT 104)) = true := rfl
  unfold eAt
  rw [g, Bool.and_true]
  exact decide_eq_true h
set_option maxRecDepth 100000 in
theorem eK_105 : eAt 653 (.code (eY 105) (eB 105) (eN 105) (eT 105)) = true := by
  have h : lw_tbl[653]? = some (.code (eY 105) (eB 105) (eN 105) (eT 105)) := rfl
  have g : goodWord (.code (eY 105) (eB 105) (eN 105) (eT 105)) = true := rfl
  unfold eAt
  rw [g, Bool.and_true]
  exact decide_eq_true h
set_option maxRecDepth 100000 in
theorem eK_106 : eAt 690 (.code (eY 106) (eB 106) (eN 106) (eT 106)) = true := by
  have h : lw_tbl[690]? = some (.code (eY 106) (eB 106) (eN 106) (eT 106)) := rfl
  have g : goodWord (.code (eY 106) (eB 106) (eN 106) (eT 106)) = true := rfl
  unfold eAt
  rw [g, Bool.and_true]
  exact decide_eq_true h
set_option maxRecDepth 100000 in
theorem eK_107 : eAt 683 (.code (eY 107) (eB 107) (eN 107) (eT 107)) = true := by
  have h : lw_tbl[683]? = some (.code (eY 107) (eB 107) (eN 107) (eT 107)) := rfl
  have g : goodWord (.code (eY 107) (eB 107) (eN 107) (eT 107)) = true := rfl
  unfold eAt
  rw [g, Bool.and_true]
  exact decide_eq_true h
set_option maxRecDepth 100000 in
theorem eK_108 : eAt 699 (.code (eY 108) (eB 108) (eN 108) (eT 108)) = true := by
  have h : lw_tbl[699]? = some (.code (eY 108) (eB 108) (eN 108) (eT 108)) := rfl
  have g : goodWord (.code (eY 108) (eB 108) (eN 108) (eT 108)) = true := rfl
  unfold eAt
  rw [g, Bool.and_true]
  exact decide_eq_true h
set_option maxRecDepth 100000 in
theorem eK_109 : eAt 696 (.code (eY 109) (eB 109) (eN 109) (eT 109)) = true := by
  have h : lw_tbl[696]? = some (.code (eY 109) (eB 109) (eN 109) (eT 109)) := rfl
  have g : goodWord (.code (eY 109) (eB 109) (eN 109) (eT 109)) = true := rfl
  unfold eAt
  rw [g, Bool.and_true]
  exact decide_eq_true h
set_option maxRecDepth 100000 in
theorem eK_110 : eAt 693 (.code (eY 110) (eB 110) (eN 110) (eT 110)) = true := by
  have h : lw_tbl[693]? = some (.code (eY 110) (eB 110) (eN 110) (eT 110)) := rfl
  have g : goodWord (.code (eY 110) (eB 110) (eN 110) (eT 110)) = true := rfl
  unfold eAt
  rw [g, Bool.and_true]
  exact decide_eq_true h
def eMc (y : Nat) : Prop := Cond.code (eY y) (eB y) (eN y) (eT y) ∈ eWs
theorem eMc_0 : ∀ y ∈ [0, 1, 2, 3, 4, 5, 6, 7, 8, 9, 10, 11, 12, 13, 14, 15, 16, 17, 18, 19, 20, 21, 22, 23, 24, 25, 26, 27, 28, 29, 30, 31, 32, 33, 34, 35, 36, 37, 38, 39], eMc y := List.forall_mem_cons.mpr ⟨eAt_of eK_0, List.forall_mem_cons.mpr ⟨eAt_of eK_1, List.forall_mem_cons.mpr ⟨eAt_of eK_2, List.forall_mem_cons.mpr ⟨eAt_of eK_3, List.forall_mem_cons.mpr ⟨eAt_of eK_4, List.forall_mem_cons.mpr ⟨eAt_of eK_5, List.forall_mem_cons.mpr ⟨eAt_of eK_6, List.forall_mem_cons.mpr ⟨eAt_of eK_7, List.forall_mem_cons.mpr ⟨eAt_of eK_8, List.forall_mem_cons.mpr ⟨eAt_of eK_9, List.forall_mem_cons.mpr ⟨eAt_of eK_10, List.forall_mem_cons.mpr ⟨eAt_of eK_11, List.forall_mem_cons.mpr ⟨eAt_of eK_12, List.forall_mem_cons.mpr ⟨eAt_of eK_13, List.forall_mem_cons.mpr ⟨eAt_of eK_14, List.forall_mem_cons.mpr ⟨eAt_of eK_15, List.forall_mem_cons.mpr ⟨eAt_of eK_16, List.forall_mem_cons.mpr ⟨eAt_of eK_17, List.forall_mem_cons.mpr ⟨eAt_of eK_18, List.forall_mem_cons.mpr ⟨eAt_of eK_19, List.forall_mem_cons.mpr ⟨eAt_of eK_20, List.forall_mem_cons.mpr ⟨eAt_of eK_21, List.forall_mem_cons.mpr ⟨eAt_of eK_22, List.forall_mem_cons.mpr ⟨eAt_of eK_23, List.forall_mem_cons.mpr ⟨eAt_of eK_24, List.forall_mem_cons.mpr ⟨eAt_of eK_25, List.forall_mem_cons.mpr ⟨eAt_of eK_26, List.forall_mem_cons.mpr ⟨eAt_of eK_27, List.forall_mem_cons.mpr ⟨eAt_of eK_28, List.forall_mem_cons.mpr ⟨eAt_of eK_29, List.forall_mem_cons.mpr ⟨eAt_of eK_30, List.forall_mem_cons.mpr ⟨eAt_of eK_31, List.forall_mem_cons.mpr ⟨eAt_of eK_32, List.forall_mem_cons.mpr ⟨eAt_of eK_33, List.forall_mem_cons.mpr ⟨eAt_of eK_34, List.forall_mem_cons.mpr ⟨eAt_of eK_35, List.forall_mem_cons.mpr ⟨eAt_of eK_36, List.forall_mem_cons.mpr ⟨eAt_of eK_37, List.forall_mem_cons.mpr ⟨eAt_of eK_38, List.forall_mem_cons.mpr ⟨eAt_of eK_39, fun _ h => absurd h List.not_mem_nil⟩⟩⟩⟩⟩⟩⟩⟩⟩⟩⟩⟩⟩⟩⟩⟩⟩⟩⟩⟩⟩⟩⟩⟩⟩⟩⟩⟩⟩⟩⟩⟩⟩⟩⟩⟩⟩⟩⟩⟩
theorem eMc_40 : ∀ y ∈ [40, 41, 42, 43, 44, 45, 46, 47, 48, 49, 50, 51, 52, 53, 54, 55, 56, 57, 58, 59, 60, 61, 62, 63, 64, 65, 66, 67, 68, 69, 70, 71, 72, 73, 74, 75, 76, 77, 78, 79], eMc y := List.forall_mem_cons.mpr ⟨eAt_of eK_40, List.forall_mem_cons.mpr ⟨eAt_of eK_41, List.forall_mem_cons.mpr ⟨eAt_of eK_42, List.forall_mem_cons.mpr ⟨eAt_of eK_43, List.forall_mem_cons.mpr ⟨eAt_of eK_44, List.forall_mem_cons.mpr ⟨eAt_of eK_45, List.forall_mem_cons.mpr ⟨eAt_of eK_46, List.forall_mem_cons.mpr ⟨eAt_of eK_47, List.forall_mem_cons.mpr ⟨eAt_of eK_48, List.forall_mem_cons.mpr ⟨eAt_of eK_49, List.forall_mem_cons.mpr ⟨eAt_of eK_50, List.forall_mem_cons.mpr ⟨eAt_of eK_51, List.forall_mem_cons.mpr ⟨eAt_of eK_52, List.forall_mem_cons.mpr ⟨eAt_of eK_53, List.forall_mem_cons.mpr ⟨eAt_of eK_54, List.forall_mem_cons.mpr ⟨eAt_of eK_55, List.forall_mem_cons.mpr ⟨eAt_of eK_56, List.forall_mem_cons.mpr ⟨eAt_of eK_57, List.forall_mem_cons.mpr ⟨eAt_of eK_58, List.forall_mem_cons.mpr ⟨eAt_of eK_59, List.forall_mem_cons.mpr ⟨eAt_of eK_60, List.forall_mem_cons.mpr ⟨eAt_of eK_61, List.forall_mem_cons.mpr ⟨eAt_of eK_62, List.forall_mem_cons.mpr ⟨eAt_of eK_63, List.forall_mem_cons.mpr ⟨eAt_of eK_64, List.forall_mem_cons.mpr ⟨eAt_of eK_65, List.forall_mem_cons.mpr ⟨eAt_of eK_66, List.forall_mem_cons.mpr ⟨eAt_of eK_67, List.forall_mem_cons.mpr ⟨eAt_of eK_68, List.forall_mem_cons.mpr ⟨eAt_of eK_69, List.forall_mem_cons.mpr ⟨eAt_of eK_70, List.forall_mem_cons.mpr ⟨eAt_of eK_71, List.forall_mem_cons.mpr ⟨eAt_of eK_72, List.forall_mem_cons.mpr ⟨eAt_of eK_73, List.forall_mem_cons.mpr ⟨eAt_of eK_74, List.forall_mem_cons.mpr ⟨eAt_of eK_75, List.forall_mem_cons.mpr ⟨eAt_of eK_76, List.forall_mem_cons.mpr ⟨eAt_of eK_77, List.forall_mem_cons.mpr ⟨eAt_of eK_78, List.forall_mem_cons.mpr ⟨eAt_of eK_79, fun _ h => absurd h List.not_mem_nil⟩⟩⟩⟩⟩⟩⟩⟩⟩⟩⟩⟩⟩⟩⟩⟩⟩⟩⟩⟩⟩⟩⟩⟩⟩⟩⟩⟩⟩⟩⟩⟩⟩⟩⟩⟩⟩⟩⟩⟩
theorem eMc_80 : ∀ y ∈ [80, 81, 82, 83, 84, 85, 86, 87, 88, 89, 90, 91, 92, 93, 94, 95, 96, 97, 98, 99, 100, 101, 102, 103, 104, 105, 106, 107, 108, 109, 110], eMc y := List.forall_mem_cons.mpr ⟨eAt_of eK_80, List.forall_mem_cons.mpr ⟨eAt_of eK_81, List.forall_mem_cons.mpr ⟨eAt_of eK_82, List.forall_mem_cons.mpr ⟨eAt_of eK_83, List.forall_mem_cons.mpr ⟨eAt_of eK_84, List.forall_mem_cons.mpr ⟨eAt_of eK_85, List.forall_mem_cons.mpr ⟨eAt_of eK_86, List.forall_mem_cons.mpr ⟨eAt_of eK_87, List.forall_mem_cons.mpr ⟨eAt_of eK_88, List.forall_mem_cons.mpr ⟨eAt_of eK_89, List.forall_mem_cons.mpr ⟨eAt_of eK_90, List.forall_mem_cons.mpr ⟨eAt_of eK_91, List.forall_mem_cons.mpr ⟨eAt_of eK_92, List.forall_mem_cons.mpr ⟨eAt_of eK_93, List.forall_mem_cons.mpr ⟨eAt_of eK_94, List.forall_mem_cons.mpr ⟨eAt_of eK_95, List.forall_mem_cons.mpr ⟨eAt_of eK_96, List.forall_mem_cons.mpr ⟨eAt_of eK_97, List.forall_mem_cons.mpr ⟨eAt_of eK_98, List.forall_mem_cons.mpr ⟨eAt_of eK_99, List.forall_mem_cons.mpr ⟨eAt_of eK_100, List.forall_mem_cons.mpr ⟨eAt_of eK_101, List.forall_mem_cons.mpr ⟨eAt_of eK_102, List.forall_mem_cons.mpr ⟨eAt_of eK_103, List.forall_mem_cons.mpr ⟨eAt_of eK_104, List.forall_mem_cons.mpr ⟨eAt_of eK_105, List.forall_mem_cons.mpr ⟨eAt_of eK_106, List.forall_mem_cons.mpr ⟨eAt_of eK_107, List.forall_mem_cons.mpr ⟨eAt_of eK_108, List.forall_mem_cons.mpr ⟨eAt_of eK_109, List.forall_mem_cons.mpr ⟨eAt_of eK_110, fun _ h => absurd h List.not_mem_nil⟩⟩⟩⟩⟩⟩⟩⟩⟩⟩⟩⟩⟩⟩⟩⟩⟩⟩⟩⟩⟩⟩⟩⟩⟩⟩⟩⟩⟩⟩⟩
theorem eMc_all : ∀ y ∈ [0, 1, 2, 3, 4, 5, 6, 7, 8, 9, 10, 11, 12, 13, 14, 15, 16, 17, 18, 19, 20, 21, 22, 23, 24, 25, 26, 27, 28, 29, 30, 31, 32, 33, 34, 35, 36, 37, 38, 39] ++ [40, 41, 42, 43, 44, 45, 46, 47, 48, 49, 50, 51, 52, 53, 54, 55, 56, 57, 58, 59, 60, 61, 62, 63, 64, 65, 66, 67, 68, 69, 70, 71, 72, 73, 74, 75, 76, 77, 78, 79] ++ [80, 81, 82, 83, 84, 85, 86, 87, 88, 89, 90, 91, 92, 93, 94, 95, 96, 97, 98, 99, 100, 101, 102, 103, 104, 105, 106, 107, 108, 109, 110], eMc y := by
  intro y h
  simp only [List.mem_append] at h
  rcases h with ((h | h) | h)
  · exact eMc_0 y h
  · exact eMc_40 y h
  · exact eMc_80 y h
theorem eM_len : eMp.length = 111 := by decide +kernel
theorem eMc_of {y : Nat} (h : y < eMp.length) : Cond.code (eY y) (eB y) (eN y) (eT y) ∈ eWs := by
  rw [eM_len] at h
  exact eMc_all y ((show [0, 1, 2, 3, 4, 5, 6, 7, 8, 9, 10, 11, 12, 13, 14, 15, 16, 17, 18, 19, 20, 21, 22, 23, 24, 25, 26, 27, 28, 29, 30, 31, 32, 33, 34, 35, 36, 37, 38, 39] ++ [40, 41, 42, 43, 44, 45, 46, 47, 48, 49, 50, 51, 52, 53, 54, 55, 56, 57, 58, 59, 60, 61, 62, 63, 64, 65, 66, 67, 68, 69, 70, 71, 72, 73, 74, 75, 76, 77, 78, 79] ++ [80, 81, 82, 83, 84, 85, 86, 87, 88, 89, 90, 91, 92, 93, 94, 95, 96, 97, 98, 99, 100, 101, 102, 103, 104, 105, 106, 107, 108, 109, 110] = List.range 111 by decide +kernel) ▸ List.mem_range.mpr h)
def eCchk (e : Nat × Nat × Nat × Nat × Nat) : Bool := if e.2.2.1 = 0 then eAt e.2.2.2.2 (.methodLink (eR e.1) e.2.1 (eY e.2.2.2.1)) && eSt.getD e.2.2.2.1 false && decide (e.2.2.2.1 < eMp.length)
  else if e.2.2.1 = 1 then eAt e.2.2.2.2 (.methodLink (eR e.1) e.2.1 (eY e.2.2.2.1)) && !eSt.getD e.2.2.2.1 false && !eI e.2.2.2.1 && decide (e.2.2.2.1 < eMp.length)
  else if e.2.2.1 = 2 then eAt e.2.2.2.2 (.methodLink (eR e.1) e.2.1 (eY e.2.2.2.1)) && !eSt.getD e.2.2.2.1 false && eI e.2.2.2.1 && decide (e.2.2.2.1 < eMp.length)
  else if e.2.2.1 = 3 then (match lw_tbl[e.2.2.2.2]? with | some (.methodLinkNest a b x host) => decide (a = eR e.1) && decide (b = e.2.1) && decide (x = eY e.2.2.2.1) | _ => false) && eSt.getD e.2.2.2.1 false && decide (e.2.2.2.1 < eMp.length)
  else if e.2.2.1 = 4 then eAt e.2.2.2.2 (.methodLink (eR e.1) e.2.1 objectInit)
  else if e.2.2.1 = 5 then eAt e.2.2.2.2 (.methodLink (eR e.1) e.2.1 arraycopyName)
  else false
set_option maxRecDepth 100000 in
theorem eCl_ok : eCl.all eCchk = true := by decide +kernel
def eSchk (e : Nat × Nat × Nat × Nat × Nat) : Bool := match eSn[e.2.2.1 - 1]? with
  | some f => decide (1 ≤ e.2.2.1) && (if e.2.2.2.1 = 0 then eAt e.2.2.2.2 (.fieldLink (eR e.1) e.2.1 f.1 f.2 "[I") else match lw_tbl[e.2.2.2.2]? with | some (.fieldLinkNest a b c n d host) => decide (a = eR e.1) && decide (b = e.2.1) && decide (c = f.1) && decide (n = f.2) && decide (d = "[I") | _ => false)
  | none => false
set_option maxRecDepth 100000 in
theorem eSl_ok : eSl.all eSchk = true := by decide +kernel
def eNchk (e : Nat × Nat × Nat × Nat) : Bool := if e.2.2.1 < 100 then (match vwCl[e.2.2.1]? with | some q => eAt e.2.2.2 (.classLink (eR e.1) e.2.1 q.1) | none => false)
  else if e.2.2.1 = 102 then eAt e.2.2.2 (.classLink (eR e.1) e.2.1 "LampChanger$Lamp") else if e.2.2.1 = 103 then eAt e.2.2.2 (.classLink (eR e.1) e.2.1 "LampChanger$Beacon") else false
set_option maxRecDepth 100000 in
theorem eNl_ok : eNl.all eNchk = true := by decide +kernel
def eKchk (e : Nat × Nat × Int × Nat) : Bool := eAt e.2.2.2 (.constant (eR e.1) e.2.1 (Int32.ofInt e.2.2.1)) && decide (-2147483648 ≤ e.2.2.1) && decide (e.2.2.1 ≤ 2147483647)
set_option maxRecDepth 100000 in
theorem eKl_ok : eKl.all eKchk = true := by decide +kernel
/-- the classes: their fields' words, types, names; that they can be made -/
def eVchk (q : vw_C) : Bool := (u_ws q.1 q.2.1 q.2.2).all (fun w => decide (w ∈ lw_tbl) && goodWord w) && decide (Cond.instantiable q.1 q.2.2 ∈ lw_tbl) && decide (Cond.initialized q.1 ∈ lw_tbl) && goodWord (Cond.instantiable q.1 q.2.2) && goodWord (Cond.initialized q.1)
set_option maxRecDepth 100000 in
theorem eV_ok : vwCl.all eVchk = true := by decide +kernel
theorem eOther1 : Cond.instanceMethod objectInit ∈ eWs := List.mem_filter.mpr ⟨by decide +kernel, by decide +kernel⟩
theorem eOther2 : Cond.code objectInit ⟨#[0xb1]⟩ 1 none ∈ eWs := List.mem_filter.mpr ⟨by decide +kernel, by decide +kernel⟩
theorem eOther3 : Cond.native arraycopyName ∈ eWs := List.mem_filter.mpr ⟨by decide +kernel, by decide +kernel⟩
theorem eOther4 : Cond.static arraycopyName ∈ eWs := List.mem_filter.mpr ⟨by decide +kernel, by decide +kernel⟩
theorem eOther5 : Cond.initialized "java/lang/System" ∈ eWs := List.mem_filter.mpr ⟨by decide +kernel, by decide +kernel⟩
theorem eOther6 : Cond.arrayClass .int ∈ eWs := List.mem_filter.mpr ⟨by decide +kernel, by decide +kernel⟩
theorem eOther7 : Cond.arrayClass .char ∈ eWs := List.mem_filter.mpr ⟨by decide +kernel, by decide +kernel⟩
theorem eOther8 : Cond.arrayClass .long ∈ eWs := List.mem_filter.mpr ⟨by decide +kernel, by decide +kernel⟩
def eJchk (e : Nat × Nat × Int × Nat) : Bool := eAt e.2.2.2 (.constantLong (eR e.1) e.2.1 (Int64.ofInt e.2.2.1))
set_option maxRecDepth 100000 in
theorem eJl_ok : eJl.all eJchk = true := by decide +kernel
