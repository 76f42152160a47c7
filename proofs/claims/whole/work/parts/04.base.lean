/-! checks of the tables against the Statement's words; the words that every method is given -/
def eWs : List Cond := lw_tbl.filter goodWord
def eNest : Cond → Bool
  | .methodLinkNest _ _ _ _ => true
  | .fieldLinkNest _ _ _ _ _ _ => true
  | _ => false
def eNw : List Cond := lw_tbl.filter eNest
theorem eWs_of {i : Nat} {w : Cond} (h : lw_tbl[i]? = some w) (hg : goodWord w = true) : w ∈ eWs := List.mem_filter.mpr ⟨List.mem_of_getElem? h, hg⟩
theorem eNw_of {i : Nat} {w : Cond} (h : lw_tbl[i]? = some w) (hg : eNest w = true) : w ∈ eNw := List.mem_filter.mpr ⟨List.mem_of_getElem? h, hg⟩
theorem eWs_good {w : Cond} (h : w ∈ eWs) : goodWord w = true := (List.mem_filter.mp h).2
def eRefTy : Option FieldType → Bool
  | some (.object _) => true
  | some (.array _) => true
  | _ => false
def eAt (i : Nat) (w : Cond) : Bool := decide (lw_tbl[i]? = some w) && goodWord w
theorem eAt_of {i : Nat} {w : Cond} (h : eAt i w = true) : w ∈ eWs := by
  simp only [eAt, Bool.and_eq_true, decide_eq_true_eq] at h
  exact eWs_of h.1 h.2
def eFchk (e : Nat × Nat × Nat × Nat × Nat × Nat) : Bool := match vwCl[e.2.2.1]? with
  | some q => decide (e.2.2.2.1 < q.2.2) && eAt e.2.2.2.2.2 (.fieldLink (eR e.1) e.2.1 q.1 (q.2.1 e.2.2.2.1).2.1 (q.2.1 e.2.2.2.1).2.2.1) && decide ((q.2.1 e.2.2.2.1).1 = q.1) &&
      (if e.2.2.2.2.1 = 0 then decide (parseFieldDescriptor (q.2.1 e.2.2.2.1).2.2.1 = some .int) else if e.2.2.2.2.1 = 1 then decide (parseFieldDescriptor (q.2.1 e.2.2.2.1).2.2.1 = some .boolean) else eRefTy (parseFieldDescriptor (q.2.1 e.2.2.2.1).2.2.1))
  | none => false
set_option maxRecDepth 100000 in
theorem eFl_ok : eFl.all eFchk = true := by decide +kernel
def eMchk (y : Nat) : Bool := match eMp[y]? with
  | some q => eAt q.1 (if eSt.getD y false then .static (eY y) else .instanceMethod (eY y)) && (eSt.getD y false || eI y || eAt q.2.1 (.selects (eY y).cls (eY y) (eY y))) && eAt q.2.2.1 (.initialized (eY y).cls) &&
      decide ((parseMethodDescriptor (eY y).desc).map (fun d => d.parameters.length) = some (eA y)) && plainFor (eY y) && decide ((eY y).cls ≠ "java/lang/invoke/MethodHandle") && decide ((eY y).cls ≠ "java/lang/invoke/VarHandle") && decide (eR (eO y) = (eY y).cls) && decide (eI y = true → (eY y).name = "<init>") && decide (eI y = true → eT y = none)
  | none => false
set_option maxRecDepth 100000 in
theorem eM_ok : (List.range eMp.length).all eMchk = true := by decide +kernel
set_option maxRecDepth 100000 in
theorem eK_0 : eAt 56 (.code (eY 0) (eB 0) (eN 0) (eT 0)) = true := by decide +kernel
set_option maxRecDepth 100000 in
theorem eK_1 : eAt 341 (.code (eY 1) (eB 1) (eN 1) (eT 1)) = true := by decide +kernel
set_option maxRecDepth 100000 in
theorem eK_2 : eAt 386 (.code (eY 2) (eB 2) (eN 2) (eT 2)) = true := by decide +kernel
set_option maxRecDepth 100000 in
theorem eK_3 : eAt 510 (.code (eY 3) (eB 3) (eN 3) (eT 3)) = true := by decide +kernel
set_option maxRecDepth 100000 in
theorem eK_4 : eAt 506 (.code (eY 4) (eB 4) (eN 4) (eT 4)) = true := by decide +kernel
set_option maxRecDepth 100000 in
theorem eK_5 : eAt 521 (.code (eY 5) (eB 5) (eN 5) (eT 5)) = true := by decide +kernel
set_option maxRecDepth 100000 in
theorem eK_6 : eAt 535 (.code (eY 6) (eB 6) (eN 6) (eT 6)) = true := by decide +kernel
set_option maxRecDepth 100000 in
theorem eK_7 : eAt 581 (.code (eY 7) (eB 7) (eN 7) (eT 7)) = true := by decide +kernel
set_option maxRecDepth 100000 in
theorem eK_8 : eAt 576 (.code (eY 8) (eB 8) (eN 8) (eT 8)) = true := by decide +kernel
set_option maxRecDepth 100000 in
theorem eK_9 : eAt 556 (.code (eY 9) (eB 9) (eN 9) (eT 9)) = true := by decide +kernel
set_option maxRecDepth 100000 in
theorem eK_10 : eAt 586 (.code (eY 10) (eB 10) (eN 10) (eT 10)) = true := by decide +kernel
set_option maxRecDepth 100000 in
theorem eK_11 : eAt 593 (.code (eY 11) (eB 11) (eN 11) (eT 11)) = true := by decide +kernel
set_option maxRecDepth 100000 in
theorem eK_12 : eAt 600 (.code (eY 12) (eB 12) (eN 12) (eT 12)) = true := by decide +kernel
set_option maxRecDepth 100000 in
theorem eK_13 : eAt 606 (.code (eY 13) (eB 13) (eN 13) (eT 13)) = true := by decide +kernel
set_option maxRecDepth 100000 in
theorem eK_14 : eAt 610 (.code (eY 14) (eB 14) (eN 14) (eT 14)) = true := by decide +kernel
set_option maxRecDepth 100000 in
theorem eK_15 : eAt 158 (.code (eY 15) (eB 15) (eN 15) (eT 15)) = true := by decide +kernel
set_option maxRecDepth 100000 in
theorem eK_16 : eAt 371 (.code (eY 16) (eB 16) (eN 16) (eT 16)) = true := by decide +kernel
set_option maxRecDepth 100000 in
theorem eK_17 : eAt 560 (.code (eY 17) (eB 17) (eN 17) (eT 17)) = true := by decide +kernel
set_option maxRecDepth 100000 in
theorem eK_18 : eAt 705 (.code (eY 18) (eB 18) (eN 18) (eT 18)) = true := by decide +kernel
set_option maxRecDepth 100000 in
theorem eK_19 : eAt 237 (.code (eY 19) (eB 19) (eN 19) (eT 19)) = true := by decide +kernel
set_option maxRecDepth 100000 in
theorem eK_20 : eAt 330 (.code (eY 20) (eB 20) (eN 20) (eT 20)) = true := by decide +kernel
set_option maxRecDepth 100000 in
theorem eK_21 : eAt 632 (.code (eY 21) (eB 21) (eN 21) (eT 21)) = true := by decide +kernel
set_option maxRecDepth 100000 in
theorem eK_22 : eAt 334 (.code (eY 22) (eB 22) (eN 22) (eT 22)) = true := by decide +kernel
set_option maxRecDepth 100000 in
theorem eK_23 : eAt 74 (.code (eY 23) (eB 23) (eN 23) (eT 23)) = true := by decide +kernel
set_option maxRecDepth 100000 in
theorem eK_24 : eAt 406 (.code (eY 24) (eB 24) (eN 24) (eT 24)) = true := by decide +kernel
set_option maxRecDepth 100000 in
theorem eK_25 : eAt 421 (.code (eY 25) (eB 25) (eN 25) (eT 25)) = true := by decide +kernel
set_option maxRecDepth 100000 in
theorem eK_26 : eAt 362 (.code (eY 26) (eB 26) (eN 26) (eT 26)) = true := by decide +kernel
set_option maxRecDepth 100000 in
theorem eK_27 : eAt 402 (.code (eY 27) (eB 27) (eN 27) (eT 27)) = true := by decide +kernel
set_option maxRecDepth 100000 in
theorem eK_28 : eAt 531 (.code (eY 28) (eB 28) (eN 28) (eT 28)) = true := by decide +kernel
set_option maxRecDepth 100000 in
theorem eK_29 : eAt 526 (.code (eY 29) (eB 29) (eN 29) (eT 29)) = true := by decide +kernel
set_option maxRecDepth 100000 in
theorem eK_30 : eAt 570 (.code (eY 30) (eB 30) (eN 30) (eT 30)) = true := by decide +kernel
set_option maxRecDepth 100000 in
theorem eK_31 : eAt 666 (.code (eY 31) (eB 31) (eN 31) (eT 31)) = true := by decide +kernel
set_option maxRecDepth 100000 in
theorem eK_32 : eAt 550 (.code (eY 32) (eB 32) (eN 32) (eT 32)) = true := by decide +kernel
set_option maxRecDepth 100000 in
theorem eK_33 : eAt 539 (.code (eY 33) (eB 33) (eN 33) (eT 33)) = true := by decide +kernel
set_option maxRecDepth 100000 in
theorem eK_34 : eAt 546 (.code (eY 34) (eB 34) (eN 34) (eT 34)) = true := by decide +kernel
set_option maxRecDepth 100000 in
theorem eK_35 : eAt 133 (.code (eY 35) (eB 35) (eN 35) (eT 35)) = true := by decide +kernel
set_option maxRecDepth 100000 in
theorem eK_36 : eAt 366 (.code (eY 36) (eB 36) (eN 36) (eT 36)) = true := by decide +kernel
set_option maxRecDepth 100000 in
theorem eK_37 : eAt 471 (.code (eY 37) (eB 37) (eN 37) (eT 37)) = true := by decide +kernel
set_option maxRecDepth 100000 in
theorem eK_38 : eAt 453 (.code (eY 38) (eB 38) (eN 38) (eT 38)) = true := by decide +kernel
set_option maxRecDepth 100000 in
theorem eK_39 : eAt 449 (.code (eY 39) (eB 39) (eN 39) (eT 39)) = true := by decide +kernel
set_option maxRecDepth 100000 in
theorem eK_40 : eAt 458 (.code (eY 40) (eB 40) (eN 40) (eT 40)) = true := by decide +kernel
set_option maxRecDepth 100000 in
theorem eK_41 : eAt 692 (.code (eY 41) (eB 41) (eN 41) (eT 41)) = true := by decide +kernel
set_option maxRecDepth 100000 in
theorem eK_42 : eAt 696 (.code (eY 42) (eB 42) (eN 42) (eT 42)) = true := by decide +kernel
set_option maxRecDepth 100000 in
theorem eK_43 : eAt 257 (.code (eY 43) (eB 43) (eN 43) (eT 43)) = true := by decide +kernel
set_option maxRecDepth 100000 in
theorem eK_44 : eAt 620 (.code (eY 44) (eB 44) (eN 44) (eT 44)) = true := by decide +kernel
set_option maxRecDepth 100000 in
theorem eK_45 : eAt 467 (.code (eY 45) (eB 45) (eN 45) (eT 45)) = true := by decide +kernel
set_option maxRecDepth 100000 in
theorem eK_46 : eAt 475 (.code (eY 46) (eB 46) (eN 46) (eT 46)) = true := by decide +kernel
set_option maxRecDepth 100000 in
theorem eK_47 : eAt 479 (.code (eY 47) (eB 47) (eN 47) (eT 47)) = true := by decide +kernel
set_option maxRecDepth 100000 in
theorem eK_48 : eAt 483 (.code (eY 48) (eB 48) (eN 48) (eT 48)) = true := by decide +kernel
set_option maxRecDepth 100000 in
theorem eK_49 : eAt 488 (.code (eY 49) (eB 49) (eN 49) (eT 49)) = true := by decide +kernel
set_option maxRecDepth 100000 in
theorem eK_50 : eAt 493 (.code (eY 50) (eB 50) (eN 50) (eT 50)) = true := by decide +kernel
set_option maxRecDepth 100000 in
theorem eK_51 : eAt 62 (.code (eY 51) (eB 51) (eN 51) (eT 51)) = true := by decide +kernel
set_option maxRecDepth 100000 in
theorem eK_52 : eAt 375 (.code (eY 52) (eB 52) (eN 52) (eT 52)) = true := by decide +kernel
set_option maxRecDepth 100000 in
theorem eK_53 : eAt 344 (.code (eY 53) (eB 53) (eN 53) (eT 53)) = true := by decide +kernel
set_option maxRecDepth 100000 in
theorem eK_54 : eAt 67 (.code (eY 54) (eB 54) (eN 54) (eT 54)) = true := by decide +kernel
set_option maxRecDepth 100000 in
theorem eK_55 : eAt 354 (.code (eY 55) (eB 55) (eN 55) (eT 55)) = true := by decide +kernel
set_option maxRecDepth 100000 in
theorem eK_56 : eAt 358 (.code (eY 56) (eB 56) (eN 56) (eT 56)) = true := by decide +kernel
set_option maxRecDepth 100000 in
theorem eK_57 : eAt 417 (.code (eY 57) (eB 57) (eN 57) (eT 57)) = true := by decide +kernel
set_option maxRecDepth 100000 in
theorem eK_58 : eAt 429 (.code (eY 58) (eB 58) (eN 58) (eT 58)) = true := by decide +kernel
set_option maxRecDepth 100000 in
theorem eK_59 : eAt 433 (.code (eY 59) (eB 59) (eN 59) (eT 59)) = true := by decide +kernel
set_option maxRecDepth 100000 in
theorem eK_60 : eAt 515 (.code (eY 60) (eB 60) (eN 60) (eT 60)) = true := by decide +kernel
set_option maxRecDepth 100000 in
theorem eK_61 : eAt 566 (.code (eY 61) (eB 61) (eN 61) (eT 61)) = true := by decide +kernel
set_option maxRecDepth 100000 in
theorem eK_62 : eAt 679 (.code (eY 62) (eB 62) (eN 62) (eT 62)) = true := by decide +kernel
set_option maxRecDepth 100000 in
theorem eK_63 : eAt 683 (.code (eY 63) (eB 63) (eN 63) (eT 63)) = true := by decide +kernel
set_option maxRecDepth 100000 in
theorem eK_64 : eAt 714 (.code (eY 64) (eB 64) (eN 64) (eT 64)) = true := by decide +kernel
set_option maxRecDepth 100000 in
theorem eK_65 : eAt 720 (.code (eY 65) (eB 65) (eN 65) (eT 65)) = true := by decide +kernel
set_option maxRecDepth 100000 in
theorem eK_66 : eAt 725 (.code (eY 66) (eB 66) (eN 66) (eT 66)) = true := by decide +kernel
set_option maxRecDepth 100000 in
theorem eK_67 : eAt 48 (.code (eY 67) (eB 67) (eN 67) (eT 67)) = true := by decide +kernel
set_option maxRecDepth 100000 in
theorem eK_68 : eAt 314 (.code (eY 68) (eB 68) (eN 68) (eT 68)) = true := by decide +kernel
set_option maxRecDepth 100000 in
theorem eK_69 : eAt 379 (.code (eY 69) (eB 69) (eN 69) (eT 69)) = true := by decide +kernel
set_option maxRecDepth 100000 in
theorem eK_70 : eAt 391 (.code (eY 70) (eB 70) (eN 70) (eT 70)) = true := by decide +kernel
set_option maxRecDepth 100000 in
theorem eK_71 : eAt 413 (.code (eY 71) (eB 71) (eN 71) (eT 71)) = true := by decide +kernel
set_option maxRecDepth 100000 in
theorem eK_72 : eAt 425 (.code (eY 72) (eB 72) (eN 72) (eT 72)) = true := by decide +kernel
set_option maxRecDepth 100000 in
theorem eK_73 : eAt 438 (.code (eY 73) (eB 73) (eN 73) (eT 73)) = true := by decide +kernel
set_option maxRecDepth 100000 in
theorem eK_74 : eAt 445 (.code (eY 74) (eB 74) (eN 74) (eT 74)) = true := by decide +kernel
set_option maxRecDepth 100000 in
theorem eK_75 : eAt 463 (.code (eY 75) (eB 75) (eN 75) (eT 75)) = true := by decide +kernel
set_option maxRecDepth 100000 in
theorem eK_76 : eAt 501 (.code (eY 76) (eB 76) (eN 76) (eT 76)) = true := by decide +kernel
set_option maxRecDepth 100000 in
theorem eK_77 : eAt 616 (.code (eY 77) (eB 77) (eN 77) (eT 77)) = true := by decide +kernel
set_option maxRecDepth 100000 in
theorem eK_78 : eAt 624 (.code (eY 78) (eB 78) (eN 78) (eT 78)) = true := by decide +kernel
set_option maxRecDepth 100000 in
theorem eK_79 : eAt 628 (.code (eY 79) (eB 79) (eN 79) (eT 79)) = true := by decide +kernel
set_option maxRecDepth 100000 in
theorem eK_80 : eAt 636 (.code (eY 80) (eB 80) (eN 80) (eT 80)) = true := by decide +kernel
set_option maxRecDepth 100000 in
theorem eK_81 : eAt 641 (.code (eY 81) (eB 81) (eN 81) (eT 81)) = true := by decide +kernel
set_option maxRecDepth 100000 in
theorem eK_82 : eAt 645 (.code (eY 82) (eB 82) (eN 82) (eT 82)) = true := by decide +kernel
set_option maxRecDepth 100000 in
theorem eK_83 : eAt 654 (.code (eY 83) (eB 83) (eN 83) (eT 83)) = true := by decide +kernel
set_option maxRecDepth 100000 in
theorem eK_84 : eAt 660 (.code (eY 84) (eB 84) (eN 84) (eT 84)) = true := by decide +kernel
set_option maxRecDepth 100000 in
theorem eK_85 : eAt 671 (.code (eY 85) (eB 85) (eN 85) (eT 85)) = true := by decide +kernel
set_option maxRecDepth 100000 in
theorem eK_86 : eAt 675 (.code (eY 86) (eB 86) (eN 86) (eT 86)) = true := by decide +kernel
set_option maxRecDepth 100000 in
theorem eK_87 : eAt 688 (.code (eY 87) (eB 87) (eN 87) (eT 87)) = true := by decide +kernel
set_option maxRecDepth 100000 in
theorem eK_88 : eAt 701 (.code (eY 88) (eB 88) (eN 88) (eT 88)) = true := by decide +kernel
set_option maxRecDepth 100000 in
theorem eK_89 : eAt 710 (.code (eY 89) (eB 89) (eN 89) (eT 89)) = true := by decide +kernel
set_option maxRecDepth 100000 in
theorem eK_90 : eAt 729 (.code (eY 90) (eB 90) (eN 90) (eT 90)) = true := by decide +kernel
set_option maxRecDepth 100000 in
theorem eK_91 : eAt 321 (.code (eY 91) (eB 91) (eN 91) (eT 91)) = true := by decide +kernel
set_option maxRecDepth 100000 in
theorem eK_92 : eAt 317 (.code (eY 92) (eB 92) (eN 92) (eT 92)) = true := by decide +kernel
set_option maxRecDepth 100000 in
theorem eK_93 : eAt 382 (.code (eY 93) (eB 93) (eN 93) (eT 93)) = true := by decide +kernel
set_option maxRecDepth 100000 in
theorem eK_94 : eAt 394 (.code (eY 94) (eB 94) (eN 94) (eT 94)) = true := by decide +kernel
set_option maxRecDepth 100000 in
theorem eK_95 : eAt 397 (.code (eY 95) (eB 95) (eN 95) (eT 95)) = true := by decide +kernel
set_option maxRecDepth 100000 in
theorem eK_96 : eAt 441 (.code (eY 96) (eB 96) (eN 96) (eT 96)) = true := by decide +kernel
set_option maxRecDepth 100000 in
theorem eK_97 : eAt 649 (.code (eY 97) (eB 97) (eN 97) (eT 97)) = true := by decide +kernel
set_option maxRecDepth 100000 in
theorem eK_98 : eAt 734 (.code (eY 98) (eB 98) (eN 98) (eT 98)) = true := by decide +kernel
set_option maxRecDepth 100000 in
theorem eK_99 : eAt 801 (.code (eY 99) (eB 99) (eN 99) (eT 99)) = true := by decide +kernel
set_option maxRecDepth 100000 in
theorem eK_100 : eAt 815 (.code (eY 100) (eB 100) (eN 100) (eT 100)) = true := by decide +kernel
set_option maxRecDepth 100000 in
theorem eK_101 : eAt 782 (.code (eY 101) (eB 101) (eN 101) (eT 101)) = true := by decide +kernel
set_option maxRecDepth 100000 in
theorem eK_102 : eAt 794 (.code (eY 102) (eB 102) (eN 102) (eT 102)) = true := by decide +kernel
set_option maxRecDepth 100000 in
theorem eK_103 : eAt 779 (.code (eY 103) (eB 103) (eN 103) (eT 103)) = true := by decide +kernel
set_option maxRecDepth 100000 in
theorem eK_104 : eAt 786 (.code (eY 104) (eB 104) (eN 104) (eT 104)) = true := by decide +kernel
set_option maxRecDepth 100000 in
theorem eK_105 : eAt 790 (.code (eY 105) (eB 105) (eN 105) (eT 105)) = true := by decide +kernel
set_option maxRecDepth 100000 in
theorem eK_106 : eAt 824 (.code (eY 106) (eB 106) (eN 106) (eT 106)) = true := by decide +kernel
set_option maxRecDepth 100000 in
theorem eK_107 : eAt 741 (.code (eY 107) (eB 107) (eN 107) (eT 107)) = true := by decide +kernel
set_option maxRecDepth 100000 in
theorem eK_108 : eAt 738 (.code (eY 108) (eB 108) (eN 108) (eT 108)) = true := by decide +kernel
set_option maxRecDepth 100000 in
theorem eK_109 : eAt 821 (.code (eY 109) (eB 109) (eN 109) (eT 109)) = true := by decide +kernel
set_option maxRecDepth 100000 in
theorem eK_110 : eAt 827 (.code (eY 110) (eB 110) (eN 110) (eT 110)) = true := by decide +kernel
set_option maxRecDepth 100000 in
theorem eK_111 : eAt 833 (.code (eY 111) (eB 111) (eN 111) (eT 111)) = true := by decide +kernel
set_option maxRecDepth 100000 in
theorem eK_112 : eAt 830 (.code (eY 112) (eB 112) (eN 112) (eT 112)) = true := by decide +kernel
set_option maxRecDepth 100000 in
theorem eK_113 : eAt 905 (.code (eY 113) (eB 113) (eN 113) (eT 113)) = true := by decide +kernel
set_option maxRecDepth 100000 in
theorem eK_114 : eAt 884 (.code (eY 114) (eB 114) (eN 114) (eT 114)) = true := by decide +kernel
set_option maxRecDepth 100000 in
theorem eK_115 : eAt 902 (.code (eY 115) (eB 115) (eN 115) (eT 115)) = true := by decide +kernel
set_option maxRecDepth 100000 in
theorem eK_116 : eAt 899 (.code (eY 116) (eB 116) (eN 116) (eT 116)) = true := by decide +kernel
set_option maxRecDepth 100000 in
theorem eK_117 : eAt 881 (.code (eY 117) (eB 117) (eN 117) (eT 117)) = true := by decide +kernel
set_option maxRecDepth 100000 in
theorem eK_118 : eAt 890 (.code (eY 118) (eB 118) (eN 118) (eT 118)) = true := by decide +kernel
set_option maxRecDepth 100000 in
theorem eK_119 : eAt 887 (.code (eY 119) (eB 119) (eN 119) (eT 119)) = true := by decide +kernel
set_option maxRecDepth 100000 in
theorem eK_120 : eAt 893 (.code (eY 120) (eB 120) (eN 120) (eT 120)) = true := by decide +kernel
set_option maxRecDepth 100000 in
theorem eK_121 : eAt 844 (.code (eY 121) (eB 121) (eN 121) (eT 121)) = true := by decide +kernel
set_option maxRecDepth 100000 in
theorem eK_122 : eAt 875 (.code (eY 122) (eB 122) (eN 122) (eT 122)) = true := by decide +kernel
set_option maxRecDepth 100000 in
theorem eK_123 : eAt 896 (.code (eY 123) (eB 123) (eN 123) (eT 123)) = true := by decide +kernel
set_option maxRecDepth 100000 in
theorem eK_124 : eAt 878 (.code (eY 124) (eB 124) (eN 124) (eT 124)) = true := by decide +kernel
set_option maxRecDepth 100000 in
theorem eK_125 : eAt 908 (.code (eY 125) (eB 125) (eN 125) (eT 125)) = true := by decide +kernel
set_option maxRecDepth 100000 in
theorem eK_126 : eAt 914 (.code (eY 126) (eB 126) (eN 126) (eT 126)) = true := by decide +kernel
set_option maxRecDepth 100000 in
theorem eK_127 : eAt 911 (.code (eY 127) (eB 127) (eN 127) (eT 127)) = true := by decide +kernel
set_option maxRecDepth 100000 in
theorem eK_128 : eAt 872 (.code (eY 128) (eB 128) (eN 128) (eT 128)) = true := by decide +kernel
set_option maxRecDepth 100000 in
theorem eK_129 : eAt 804 (.code (eY 129) (eB 129) (eN 129) (eT 129)) = true := by decide +kernel
set_option maxRecDepth 100000 in
theorem eK_130 : eAt 798 (.code (eY 130) (eB 130) (eN 130) (eT 130)) = true := by decide +kernel
set_option maxRecDepth 100000 in
theorem eK_131 : eAt 808 (.code (eY 131) (eB 131) (eN 131) (eT 131)) = true := by decide +kernel
set_option maxRecDepth 100000 in
theorem eK_132 : eAt 818 (.code (eY 132) (eB 132) (eN 132) (eT 132)) = true := by decide +kernel
set_option maxRecDepth 100000 in
theorem eK_133 : eAt 812 (.code (eY 133) (eB 133) (eN 133) (eT 133)) = true := by decide +kernel
set_option maxRecDepth 100000 in
theorem eK_134 : eAt 837 (.code (eY 134) (eB 134) (eN 134) (eT 134)) = true := by decide +kernel
set_option maxRecDepth 100000 in
theorem eK_135 : eAt 841 (.code (eY 135) (eB 135) (eN 135) (eT 135)) = true := by decide +kernel
set_option maxRecDepth 100000 in
theorem eK_136 : eAt 848 (.code (eY 136) (eB 136) (eN 136) (eT 136)) = true := by decide +kernel
set_option maxRecDepth 100000 in
theorem eK_137 : eAt 860 (.code (eY 137) (eB 137) (eN 137) (eT 137)) = true := by decide +kernel
set_option maxRecDepth 100000 in
theorem eK_138 : eAt 856 (.code (eY 138) (eB 138) (eN 138) (eT 138)) = true := by decide +kernel
set_option maxRecDepth 100000 in
theorem eK_139 : eAt 864 (.code (eY 139) (eB 139) (eN 139) (eT 139)) = true := by decide +kernel
set_option maxRecDepth 100000 in
theorem eK_140 : eAt 852 (.code (eY 140) (eB 140) (eN 140) (eT 140)) = true := by decide +kernel
set_option maxRecDepth 100000 in
theorem eK_141 : eAt 868 (.code (eY 141) (eB 141) (eN 141) (eT 141)) = true := by decide +kernel
set_option maxRecDepth 100000 in
theorem eK_142 : eAt 918 (.code (eY 142) (eB 142) (eN 142) (eT 142)) = true := by decide +kernel
set_option maxRecDepth 100000 in
theorem eK_143 : eAt 922 (.code (eY 143) (eB 143) (eN 143) (eT 143)) = true := by decide +kernel
set_option maxRecDepth 100000 in
theorem eK_144 : eAt 946 (.code (eY 144) (eB 144) (eN 144) (eT 144)) = true := by decide +kernel
set_option maxRecDepth 100000 in
theorem eK_145 : eAt 950 (.code (eY 145) (eB 145) (eN 145) (eT 145)) = true := by decide +kernel
set_option maxRecDepth 100000 in
theorem eK_146 : eAt 942 (.code (eY 146) (eB 146) (eN 146) (eT 146)) = true := by decide +kernel
set_option maxRecDepth 100000 in
theorem eK_147 : eAt 938 (.code (eY 147) (eB 147) (eN 147) (eT 147)) = true := by decide +kernel
set_option maxRecDepth 100000 in
theorem eK_148 : eAt 934 (.code (eY 148) (eB 148) (eN 148) (eT 148)) = true := by decide +kernel
set_option maxRecDepth 100000 in
theorem eK_149 : eAt 930 (.code (eY 149) (eB 149) (eN 149) (eT 149)) = true := by decide +kernel
set_option maxRecDepth 100000 in
theorem eK_150 : eAt 954 (.code (eY 150) (eB 150) (eN 150) (eT 150)) = true := by decide +kernel
set_option maxRecDepth 100000 in
theorem eK_151 : eAt 926 (.code (eY 151) (eB 151) (eN 151) (eT 151)) = true := by decide +kernel
set_option maxRecDepth 100000 in
theorem eK_152 : eAt 958 (.code (eY 152) (eB 152) (eN 152) (eT 152)) = true := by decide +kernel
set_option maxRecDepth 100000 in
theorem eK_153 : eAt 962 (.code (eY 153) (eB 153) (eN 153) (eT 153)) = true := by decide +kernel
set_option maxRecDepth 100000 in
theorem eK_154 : eAt 966 (.code (eY 154) (eB 154) (eN 154) (eT 154)) = true := by decide +kernel
set_option maxRecDepth 100000 in
theorem eK_155 : eAt 970 (.code (eY 155) (eB 155) (eN 155) (eT 155)) = true := by decide +kernel
set_option maxRecDepth 100000 in
theorem eK_156 : eAt 978 (.code (eY 156) (eB 156) (eN 156) (eT 156)) = true := by decide +kernel
set_option maxRecDepth 100000 in
theorem eK_157 : eAt 974 (.code (eY 157) (eB 157) (eN 157) (eT 157)) = true := by decide +kernel
set_option maxRecDepth 100000 in
theorem eK_158 : eAt 982 (.code (eY 158) (eB 158) (eN 158) (eT 158)) = true := by decide +kernel
set_option maxRecDepth 100000 in
theorem eK_159 : eAt 986 (.code (eY 159) (eB 159) (eN 159) (eT 159)) = true := by decide +kernel
set_option maxRecDepth 100000 in
theorem eK_160 : eAt 994 (.code (eY 160) (eB 160) (eN 160) (eT 160)) = true := by decide +kernel
set_option maxRecDepth 100000 in
theorem eK_161 : eAt 990 (.code (eY 161) (eB 161) (eN 161) (eT 161)) = true := by decide +kernel
set_option maxRecDepth 100000 in
theorem eK_162 : eAt 998 (.code (eY 162) (eB 162) (eN 162) (eT 162)) = true := by decide +kernel
set_option maxRecDepth 100000 in
theorem eK_163 : eAt 337 (.code (eY 163) (eB 163) (eN 163) (eT 163)) = true := by decide +kernel
set_option maxRecDepth 100000 in
theorem eK_164 : eAt 589 (.code (eY 164) (eB 164) (eN 164) (eT 164)) = true := by decide +kernel
set_option maxRecDepth 100000 in
theorem eK_165 : eAt 347 (.code (eY 165) (eB 165) (eN 165) (eT 165)) = true := by decide +kernel
def eMc (y : Nat) : Prop := Cond.code (eY y) (eB y) (eN y) (eT y) ∈ eWs
theorem eMc_0 : ∀ y ∈ [0, 1, 2, 3, 4, 5, 6, 7, 8, 9, 10, 11, 12, 13, 14, 15, 16, 17, 18, 19, 20, 21, 22, 23, 24, 25, 26, 27, 28, 29, 30, 31, 32, 33, 34, 35, 36, 37, 38, 39], eMc y := List.forall_mem_cons.mpr ⟨eAt_of eK_0, List.forall_mem_cons.mpr ⟨eAt_of eK_1, List.forall_mem_cons.mpr ⟨eAt_of eK_2, List.forall_mem_cons.mpr ⟨eAt_of eK_3, List.forall_mem_cons.mpr ⟨eAt_of eK_4, List.forall_mem_cons.mpr ⟨eAt_of eK_5, List.forall_mem_cons.mpr ⟨eAt_of eK_6, List.forall_mem_cons.mpr ⟨eAt_of eK_7, List.forall_mem_cons.mpr ⟨eAt_of eK_8, List.forall_mem_cons.mpr ⟨eAt_of eK_9, List.forall_mem_cons.mpr ⟨eAt_of eK_10, List.forall_mem_cons.mpr ⟨eAt_of eK_11, List.forall_mem_cons.mpr ⟨eAt_of eK_12, List.forall_mem_cons.mpr ⟨eAt_of eK_13, List.forall_mem_cons.mpr ⟨eAt_of eK_14, List.forall_mem_cons.mpr ⟨eAt_of eK_15, List.forall_mem_cons.mpr ⟨eAt_of eK_16, List.forall_mem_cons.mpr ⟨eAt_of eK_17, List.forall_mem_cons.mpr ⟨eAt_of eK_18, List.forall_mem_cons.mpr ⟨eAt_of eK_19, List.forall_mem_cons.mpr ⟨eAt_of eK_20, List.forall_mem_cons.mpr ⟨eAt_of eK_21, List.forall_mem_cons.mpr ⟨eAt_of eK_22, List.forall_mem_cons.mpr ⟨eAt_of eK_23, List.forall_mem_cons.mpr ⟨eAt_of eK_24, List.forall_mem_cons.mpr ⟨eAt_of eK_25, List.forall_mem_cons.mpr ⟨eAt_of eK_26, List.forall_mem_cons.mpr ⟨eAt_of eK_27, List.forall_mem_cons.mpr ⟨eAt_of eK_28, List.forall_mem_cons.mpr ⟨eAt_of eK_29, List.forall_mem_cons.mpr ⟨eAt_of eK_30, List.forall_mem_cons.mpr ⟨eAt_of eK_31, List.forall_mem_cons.mpr ⟨eAt_of eK_32, List.forall_mem_cons.mpr ⟨eAt_of eK_33, List.forall_mem_cons.mpr ⟨eAt_of eK_34, List.forall_mem_cons.mpr ⟨eAt_of eK_35, List.forall_mem_cons.mpr ⟨eAt_of eK_36, List.forall_mem_cons.mpr ⟨eAt_of eK_37, List.forall_mem_cons.mpr ⟨eAt_of eK_38, List.forall_mem_cons.mpr ⟨eAt_of eK_39, fun _ h => absurd h List.not_mem_nil⟩⟩⟩⟩⟩⟩⟩⟩⟩⟩⟩⟩⟩⟩⟩⟩⟩⟩⟩⟩⟩⟩⟩⟩⟩⟩⟩⟩⟩⟩⟩⟩⟩⟩⟩⟩⟩⟩⟩⟩
theorem eMc_40 : ∀ y ∈ [40, 41, 42, 43, 44, 45, 46, 47, 48, 49, 50, 51, 52, 53, 54, 55, 56, 57, 58, 59, 60, 61, 62, 63, 64, 65, 66, 67, 68, 69, 70, 71, 72, 73, 74, 75, 76, 77, 78, 79], eMc y := List.forall_mem_cons.mpr ⟨eAt_of eK_40, List.forall_mem_cons.mpr ⟨eAt_of eK_41, List.forall_mem_cons.mpr ⟨eAt_of eK_42, List.forall_mem_cons.mpr ⟨eAt_of eK_43, List.forall_mem_cons.mpr ⟨eAt_of eK_44, List.forall_mem_cons.mpr ⟨eAt_of eK_45, List.forall_mem_cons.mpr ⟨eAt_of eK_46, List.forall_mem_cons.mpr ⟨eAt_of eK_47, List.forall_mem_cons.mpr ⟨eAt_of eK_48, List.forall_mem_cons.mpr ⟨eAt_of eK_49, List.forall_mem_cons.mpr ⟨eAt_of eK_50, List.forall_mem_cons.mpr ⟨eAt_of eK_51, List.forall_mem_cons.mpr ⟨eAt_of eK_52, List.forall_mem_cons.mpr ⟨eAt_of eK_53, List.forall_mem_cons.mpr ⟨eAt_of eK_54, List.forall_mem_cons.mpr ⟨eAt_of eK_55, List.forall_mem_cons.mpr ⟨eAt_of eK_56, List.forall_mem_cons.mpr ⟨eAt_of eK_57, List.forall_mem_cons.mpr ⟨eAt_of eK_58, List.forall_mem_cons.mpr ⟨eAt_of eK_59, List.forall_mem_cons.mpr ⟨eAt_of eK_60, List.forall_mem_cons.mpr ⟨eAt_of eK_61, List.forall_mem_cons.mpr ⟨eAt_of eK_62, List.forall_mem_cons.mpr ⟨eAt_of eK_63, List.forall_mem_cons.mpr ⟨eAt_of eK_64, List.forall_mem_cons.mpr ⟨eAt_of eK_65, List.forall_mem_cons.mpr ⟨eAt_of eK_66, List.forall_mem_cons.mpr ⟨eAt_of eK_67, List.forall_mem_cons.mpr ⟨eAt_of eK_68, List.forall_mem_cons.mpr ⟨eAt_of eK_69, List.forall_mem_cons.mpr ⟨eAt_of eK_70, List.forall_mem_cons.mpr ⟨eAt_of eK_71, List.forall_mem_cons.mpr ⟨eAt_of eK_72, List.forall_mem_cons.mpr ⟨eAt_of eK_73, List.forall_mem_cons.mpr ⟨eAt_of eK_74, List.forall_mem_cons.mpr ⟨eAt_of eK_75, List.forall_mem_cons.mpr ⟨eAt_of eK_76, List.forall_mem_cons.mpr ⟨eAt_of eK_77, List.forall_mem_cons.mpr ⟨eAt_of eK_78, List.forall_mem_cons.mpr ⟨eAt_of eK_79, fun _ h => absurd h List.not_mem_nil⟩⟩⟩⟩⟩⟩⟩⟩⟩⟩⟩⟩⟩⟩⟩⟩⟩⟩⟩⟩⟩⟩⟩⟩⟩⟩⟩⟩⟩⟩⟩⟩⟩⟩⟩⟩⟩⟩⟩⟩
theorem eMc_80 : ∀ y ∈ [80, 81, 82, 83, 84, 85, 86, 87, 88, 89, 90, 91, 92, 93, 94, 95, 96, 97, 98, 99, 100, 101, 102, 103, 104, 105, 106, 107, 108, 109, 110, 111, 112, 113, 114, 115, 116, 117, 118, 119], eMc y := List.forall_mem_cons.mpr ⟨eAt_of eK_80, List.forall_mem_cons.mpr ⟨eAt_of eK_81, List.forall_mem_cons.mpr ⟨eAt_of eK_82, List.forall_mem_cons.mpr ⟨eAt_of eK_83, List.forall_mem_cons.mpr ⟨eAt_of eK_84, List.forall_mem_cons.mpr ⟨eAt_of eK_85, List.forall_mem_cons.mpr ⟨eAt_of eK_86, List.forall_mem_cons.mpr ⟨eAt_of eK_87, List.forall_mem_cons.mpr ⟨eAt_of eK_88, List.forall_mem_cons.mpr ⟨eAt_of eK_89, List.forall_mem_cons.mpr ⟨eAt_of eK_90, List.forall_mem_cons.mpr ⟨eAt_of eK_91, List.forall_mem_cons.mpr ⟨eAt_of eK_92, List.forall_mem_cons.mpr ⟨eAt_of eK_93, List.forall_mem_cons.mpr ⟨eAt_of eK_94, List.forall_mem_cons.mpr ⟨eAt_of eK_95, List.forall_mem_cons.mpr ⟨eAt_of eK_96, List.forall_mem_cons.mpr ⟨eAt_of eK_97, List.forall_mem_cons.mpr ⟨eAt_of eK_98, List.forall_mem_cons.mpr ⟨eAt_of eK_99, List.forall_mem_cons.mpr ⟨eAt_of eK_100, List.forall_mem_cons.mpr ⟨eAt_of eK_101, List.forall_mem_cons.mpr ⟨eAt_of eK_102, List.forall_mem_cons.mpr ⟨eAt_of eK_103, List.forall_mem_cons.mpr ⟨eAt_of eK_104, List.forall_mem_cons.mpr ⟨eAt_of eK_105, List.forall_mem_cons.mpr ⟨eAt_of eK_106, List.forall_mem_cons.mpr ⟨eAt_of eK_107, List.forall_mem_cons.mpr ⟨eAt_of eK_108, List.forall_mem_cons.mpr ⟨eAt_of eK_109, List.forall_mem_cons.mpr ⟨eAt_of eK_110, List.forall_mem_cons.mpr ⟨eAt_of eK_111, List.forall_mem_cons.mpr ⟨eAt_of eK_112, List.forall_mem_cons.mpr ⟨eAt_of eK_113, List.forall_mem_cons.mpr ⟨eAt_of eK_114, List.forall_mem_cons.mpr ⟨eAt_of eK_115, List.forall_mem_cons.mpr ⟨eAt_of eK_116, List.forall_mem_cons.mpr ⟨eAt_of eK_117, List.forall_mem_cons.mpr ⟨eAt_of eK_118, List.forall_mem_cons.mpr ⟨eAt_of eK_119, fun _ h => absurd h List.not_mem_nil⟩⟩⟩⟩⟩⟩⟩⟩⟩⟩⟩⟩⟩⟩⟩⟩⟩⟩⟩⟩⟩⟩⟩⟩⟩⟩⟩⟩⟩⟩⟩⟩⟩⟩⟩⟩⟩⟩⟩⟩
theorem eMc_120 : ∀ y ∈ [120, 121, 122, 123, 124, 125, 126, 127, 128, 129, 130, 131, 132, 133, 134, 135, 136, 137, 138, 139, 140, 141, 142, 143, 144, 145, 146, 147, 148, 149, 150, 151, 152, 153, 154, 155, 156, 157, 158, 159], eMc y := List.forall_mem_cons.mpr ⟨eAt_of eK_120, List.forall_mem_cons.mpr ⟨eAt_of eK_121, List.forall_mem_cons.mpr ⟨eAt_of eK_122, List.forall_mem_cons.mpr ⟨eAt_of eK_123, List.forall_mem_cons.mpr ⟨eAt_of eK_124, List.forall_mem_cons.mpr ⟨eAt_of eK_125, List.forall_mem_cons.mpr ⟨eAt_of eK_126, List.forall_mem_cons.mpr ⟨eAt_of eK_127, List.forall_mem_cons.mpr ⟨eAt_of eK_128, List.forall_mem_cons.mpr ⟨eAt_of eK_129, List.forall_mem_cons.mpr ⟨eAt_of eK_130, List.forall_mem_cons.mpr ⟨eAt_of eK_131, List.forall_mem_cons.mpr ⟨eAt_of eK_132, List.forall_mem_cons.mpr ⟨eAt_of eK_133, List.forall_mem_cons.mpr ⟨eAt_of eK_134, List.forall_mem_cons.mpr ⟨eAt_of eK_135, List.forall_mem_cons.mpr ⟨eAt_of eK_136, List.forall_mem_cons.mpr ⟨eAt_of eK_137, List.forall_mem_cons.mpr ⟨eAt_of eK_138, List.forall_mem_cons.mpr ⟨eAt_of eK_139, List.forall_mem_cons.mpr ⟨eAt_of eK_140, List.forall_mem_cons.mpr ⟨eAt_of eK_141, List.forall_mem_cons.mpr ⟨eAt_of eK_142, List.forall_mem_cons.mpr ⟨eAt_of eK_143, List.forall_mem_cons.mpr ⟨eAt_of eK_144, List.forall_mem_cons.mpr ⟨eAt_of eK_145, List.forall_mem_cons.mpr ⟨eAt_of eK_146, List.forall_mem_cons.mpr ⟨eAt_of eK_147, List.forall_mem_cons.mpr ⟨eAt_of eK_148, List.forall_mem_cons.mpr ⟨eAt_of eK_149, List.forall_mem_cons.mpr ⟨eAt_of eK_150, List.forall_mem_cons.mpr ⟨eAt_of eK_151, List.forall_mem_cons.mpr ⟨eAt_of eK_152, List.forall_mem_cons.mpr ⟨eAt_of eK_153, List.forall_mem_cons.mpr ⟨eAt_of eK_154, List.forall_mem_cons.mpr ⟨eAt_of eK_155, List.forall_mem_cons.mpr ⟨eAt_of eK_156, List.forall_mem_cons.mpr ⟨eAt_of eK_157, List.forall_mem_cons.mpr ⟨eAt_of eK_158, List.forall_mem_cons.mpr ⟨eAt_of eK_159, fun _ h => absurd h List.not_mem_nil⟩⟩⟩⟩⟩⟩⟩⟩⟩⟩⟩⟩⟩⟩⟩⟩⟩⟩⟩⟩⟩⟩⟩⟩⟩⟩⟩⟩⟩⟩⟩⟩⟩⟩⟩⟩⟩⟩⟩⟩
theorem eMc_160 : ∀ y ∈ [160, 161, 162, 163, 164, 165], eMc y := List.forall_mem_cons.mpr ⟨eAt_of eK_160, List.forall_mem_cons.mpr ⟨eAt_of eK_161, List.forall_mem_cons.mpr ⟨eAt_of eK_162, List.forall_mem_cons.mpr ⟨eAt_of eK_163, List.forall_mem_cons.mpr ⟨eAt_of eK_164, List.forall_mem_cons.mpr ⟨eAt_of eK_165, fun _ h => absurd h List.not_mem_nil⟩⟩⟩⟩⟩⟩
theorem eMc_all : ∀ y ∈ [0, 1, 2, 3, 4, 5, 6, 7, 8, 9, 10, 11, 12, 13, 14, 15, 16, 17, 18, 19, 20, 21, 22, 23, 24, 25, 26, 27, 28, 29, 30, 31, 32, 33, 34, 35, 36, 37, 38, 39] ++ [40, 41, 42, 43, 44, 45, 46, 47, 48, 49, 50, 51, 52, 53, 54, 55, 56, 57, 58, 59, 60, 61, 62, 63, 64, 65, 66, 67, 68, 69, 70, 71, 72, 73, 74, 75, 76, 77, 78, 79] ++ [80, 81, 82, 83, 84, 85, 86, 87, 88, 89, 90, 91, 92, 93, 94, 95, 96, 97, 98, 99, 100, 101, 102, 103, 104, 105, 106, 107, 108, 109, 110, 111, 112, 113, 114, 115, 116, 117, 118, 119] ++ [120, 121, 122, 123, 124, 125, 126, 127, 128, 129, 130, 131, 132, 133, 134, 135, 136, 137, 138, 139, 140, 141, 142, 143, 144, 145, 146, 147, 148, 149, 150, 151, 152, 153, 154, 155, 156, 157, 158, 159] ++ [160, 161, 162, 163, 164, 165], eMc y := by
  intro y h
  simp only [List.mem_append] at h
  rcases h with ((((h | h) | h) | h) | h)
  · exact eMc_0 y h
  · exact eMc_40 y h
  · exact eMc_80 y h
  · exact eMc_120 y h
  · exact eMc_160 y h
theorem eM_len : eMp.length = 166 := by decide +kernel
theorem eMc_of {y : Nat} (h : y < eMp.length) : Cond.code (eY y) (eB y) (eN y) (eT y) ∈ eWs := by
  rw [eM_len] at h
  exact eMc_all y ((show [0, 1, 2, 3, 4, 5, 6, 7, 8, 9, 10, 11, 12, 13, 14, 15, 16, 17, 18, 19, 20, 21, 22, 23, 24, 25, 26, 27, 28, 29, 30, 31, 32, 33, 34, 35, 36, 37, 38, 39] ++ [40, 41, 42, 43, 44, 45, 46, 47, 48, 49, 50, 51, 52, 53, 54, 55, 56, 57, 58, 59, 60, 61, 62, 63, 64, 65, 66, 67, 68, 69, 70, 71, 72, 73, 74, 75, 76, 77, 78, 79] ++ [80, 81, 82, 83, 84, 85, 86, 87, 88, 89, 90, 91, 92, 93, 94, 95, 96, 97, 98, 99, 100, 101, 102, 103, 104, 105, 106, 107, 108, 109, 110, 111, 112, 113, 114, 115, 116, 117, 118, 119] ++ [120, 121, 122, 123, 124, 125, 126, 127, 128, 129, 130, 131, 132, 133, 134, 135, 136, 137, 138, 139, 140, 141, 142, 143, 144, 145, 146, 147, 148, 149, 150, 151, 152, 153, 154, 155, 156, 157, 158, 159] ++ [160, 161, 162, 163, 164, 165] = List.range 166 by decide +kernel) ▸ List.mem_range.mpr h)
def eCchk (e : Nat × Nat × Nat × Nat × Nat) : Bool := if e.2.2.1 = 0 then eAt e.2.2.2.2 (.methodLink (eR e.1) e.2.1 (eY e.2.2.2.1)) && eSt.getD e.2.2.2.1 false && decide (e.2.2.2.1 < eMp.length)
  else if e.2.2.1 = 1 then eAt e.2.2.2.2 (.methodLink (eR e.1) e.2.1 (eY e.2.2.2.1)) && !eSt.getD e.2.2.2.1 false && !eI e.2.2.2.1 && decide (e.2.2.2.1 < eMp.length)
  else if e.2.2.1 = 2 then eAt e.2.2.2.2 (.methodLink (eR e.1) e.2.1 (eY e.2.2.2.1)) && !eSt.getD e.2.2.2.1 false && eI e.2.2.2.1 && decide (e.2.2.2.1 < eMp.length)
  else if e.2.2.1 = 3 then (match lw_tbl[e.2.2.2.2]? with | some (.methodLinkNest a b x host) => decide (a = eR e.1) && decide (b = e.2.1) && decide (x = eY e.2.2.2.1) | _ => false) && eSt.getD e.2.2.2.1 false && decide (e.2.2.2.1 < eMp.length)
  else if e.2.2.1 = 4 then eAt e.2.2.2.2 (.methodLink (eR e.1) e.2.1 objectInit)
  else if e.2.2.1 = 5 then eAt e.2.2.2.2 (.methodLink (eR e.1) e.2.1 arraycopyName)
  else false
set_option maxRecDepth 100000 in
theorem eCl_ok : eCl.all eCchk = true := by decide +kernel
def eSchk (e : Nat × Nat × Nat × Nat × Nat) : Bool := match eSn[e.2.2.1 - 1]? with
  | some f => decide (1 ≤ e.2.2.1) && (if e.2.2.2.1 = 0 then eAt e.2.2.2.2 (.fieldLink (eR e.1) e.2.1 f.1 f.2 "[I") else match lw_tbl[e.2.2.2.2]? with | some (.fieldLinkNest a b c n d host) => decide (a = eR e.1) && decide (b = e.2.1) && decide (c = f.1) && decide (n = f.2) && decide (d = "[I") | _ => false)
  | none => false
set_option maxRecDepth 100000 in
theorem eSl_ok : eSl.all eSchk = true := by decide +kernel
def eNchk (e : Nat × Nat × Nat × Nat) : Bool := if e.2.2.1 < 100 then (match vwCl[e.2.2.1]? with | some q => eAt e.2.2.2 (.classLink (eR e.1) e.2.1 q.1) | none => false)
  else if e.2.2.1 = 102 then eAt e.2.2.2 (.classLink (eR e.1) e.2.1 "LampChanger$Lamp") else if e.2.2.1 = 103 then eAt e.2.2.2 (.classLink (eR e.1) e.2.1 "LampChanger$Beacon") else false
set_option maxRecDepth 100000 in
theorem eNl_ok : eNl.all eNchk = true := by decide +kernel
def eKchk (e : Nat × Nat × Int × Nat) : Bool := eAt e.2.2.2 (.constant (eR e.1) e.2.1 (Int32.ofInt e.2.2.1)) && decide (-2147483648 ≤ e.2.2.1) && decide (e.2.2.1 ≤ 2147483647)
set_option maxRecDepth 100000 in
theorem eKl_ok : eKl.all eKchk = true := by decide +kernel
/-- the classes: their fields' words, types, names; that they can be made -/
def eVchk (q : vw_C) : Bool := (u_ws q.1 q.2.1 q.2.2).all (fun w => decide (w ∈ lw_tbl) && goodWord w) && decide (Cond.instantiable q.1 q.2.2 ∈ lw_tbl) && decide (Cond.initialized q.1 ∈ lw_tbl) && goodWord (Cond.instantiable q.1 q.2.2) && goodWord (Cond.initialized q.1)
set_option maxRecDepth 100000 in
theorem eV_ok : vwCl.all eVchk = true := by decide +kernel
theorem eOther1 : Cond.instanceMethod objectInit ∈ eWs := List.mem_filter.mpr ⟨by decide +kernel, by decide +kernel⟩
theorem eOther2 : Cond.code objectInit ⟨#[0xb1]⟩ 1 none ∈ eWs := List.mem_filter.mpr ⟨by decide +kernel, by decide +kernel⟩
theorem eOther3 : Cond.native arraycopyName ∈ eWs := List.mem_filter.mpr ⟨by decide +kernel, by decide +kernel⟩
theorem eOther4 : Cond.static arraycopyName ∈ eWs := List.mem_filter.mpr ⟨by decide +kernel, by decide +kernel⟩
theorem eOther5 : Cond.initialized "java/lang/System" ∈ eWs := List.mem_filter.mpr ⟨by decide +kernel, by decide +kernel⟩
theorem eOther6 : Cond.arrayClass .int ∈ eWs := List.mem_filter.mpr ⟨by decide +kernel, by decide +kernel⟩
theorem eOther7 : Cond.arrayClass .char ∈ eWs := List.mem_filter.mpr ⟨by decide +kernel, by decide +kernel⟩
