/-! the tables against the words -/
def clnm_ (k : Nat) : String := cln_.getD k ""
def gtb_ : List Cond := lw_tbl.filter goodWord
theorem wd_ {j : Nat} {w : Cond} (h : lw_tbl[j]? = some w) (hg : goodWord w = true) : w ∈ gtb_ := List.mem_filter.mpr ⟨List.mem_of_getElem? h, hg⟩
/-- the types of the fields: 0 int, 1 long, 2 a reference, 3 boolean, 4 byte -/
def ftb_ : List (List Nat) := [[0, 0, 0, 3, 3, 2], [0, 2, 2, 2, 2, 0], [2, 2, 2, 0], [0, 2, 2, 2, 2], [0, 0, 0, 0, 0, 0, 2, 2, 0, 2], [2, 2, 2, 0, 0, 0, 2], [2, 2, 2, 2, 0], [2, 0, 2, 0, 2, 0, 1, 2, 2, 2, 0, 2, 2, 2], [0, 0, 2, 2, 2, 2, 2, 2, 0, 2, 2, 2, 2, 2, 2, 2, 2, 2, 2, 0, 2, 2, 0, 2, 2, 2, 0, 0, 0, 2, 2, 0, 0, 0, 0, 2, 2, 2, 2, 0, 2, 0, 2, 2, 2, 2, 2, 2, 2, 0, 0, 0, 0, 0, 0, 0, 3, 0, 1, 0, 0]]
def ft_ (k p : Nat) : Nat := (ftb_.getD k []).getD p 0
def T_ (k : Nat) : u_T := (vwCl.getD k (RX0, TX0, 6)).2.1
def fT_ (t : Nat) (d : String) : Bool := match t, parseFieldDescriptor d with
  | 0, some .int => true
  | 1, some .long => true
  | 2, some (.object _) => true
  | 2, some (.array _) => true
  | 3, some .boolean => true
  | 4, some .byte => true
  | _, _ => false
def jc_ (i : Nat) : Nat := (mt_ i).2.2.2.2.2.2.2.2.1
def jk_ (i : Nat) : Nat := (mt_ i).2.2.2.2.2.2.2.2.2.1
def js_ (i : Nat) : Nat := (mt_ i).2.2.2.2.2.2.2.2.2.2.1
def ji_ (i : Nat) : Nat := (mt_ i).2.2.2.2.2.2.2.2.2.2.2
def sp_ (q : Nat) : Bool := q == 176 || q == 177 || q == 178
def hh_ : List (Nat × Nat × Nat × Nat) := [(0, 12, 15, 13)]
def ckA_ (q : Nat) : Bool := decide (lw_tbl[jc_ q]? = some (.code (nam_ q) (cod_ q) (mxl_ q) (rty_ q)))
def ckB_ (q : Nat) : Bool := decide (lw_tbl[jk_ q]? = some (if rcv_ q = 99 then .static (nam_ q) else .instanceMethod (nam_ q))) && decide (lw_tbl[ji_ q]? = some (.initialized (nam_ q).cls))
def ckC_ (q : Nat) : Bool := decide (rcv_ q = 99) || ((nam_ q).name == "<init>") || decide (lw_tbl[js_ q]? = some (.selects (nam_ q).cls (nam_ q) (nam_ q)))
def ckD_ (q : Nat) : Bool := decide ((nam_ q).cls = clnm_ (kap_ q)) && ((decide (kap_ q = 12) || plainName (nam_ q).cls) && (decide ((nam_ q).cls ≠ "java/lang/invoke/MethodHandle") && (decide ((nam_ q).cls ≠ "java/lang/invoke/VarHandle") && decide ((parseMethodDescriptor (nam_ q).desc).map (fun d => d.parameters.length) = some (if rcv_ q = 99 then nar_ q else nar_ q - 1)))))
def ckE_ (q : Nat) : Bool := decide (mxl_ q ≤ 20) && (decide (nar_ q ≤ 9) && (decide (rcv_ q = 99 ∨ rcv_ q < 9 ∧ rcv_ q = kap_ q ∨ rcv_ q = 32 ∧ kap_ q = 9 ∨ rcv_ q = 33 ∧ kap_ q = 13) && decide (kap_ q < 18)))
def ckF_ (q : Nat) : Bool := ((nam_ q).name != "<init>") || decide (rty_ q = none)
theorem okA_0 : lw_tbl[jc_ 0]? = some (.code (nam_ 0) (cod_ 0) (mxl_ 0) (rty_ 0)) := by decide +kernel
theorem okA_1 : lw_tbl[jc_ 1]? = some (.code (nam_ 1) (cod_ 1) (mxl_ 1) (rty_ 1)) := by decide +kernel
theorem okA_2 : lw_tbl[jc_ 2]? = some (.code (nam_ 2) (cod_ 2) (mxl_ 2) (rty_ 2)) := by decide +kernel
theorem okA_3 : lw_tbl[jc_ 3]? = some (.code (nam_ 3) (cod_ 3) (mxl_ 3) (rty_ 3)) := by decide +kernel
theorem okA_4 : lw_tbl[jc_ 4]? = some (.code (nam_ 4) (cod_ 4) (mxl_ 4) (rty_ 4)) := by decide +kernel
theorem okA_5 : lw_tbl[jc_ 5]? = some (.code (nam_ 5) (cod_ 5) (mxl_ 5) (rty_ 5)) := by decide +kernel
theorem okA_6 : lw_tbl[jc_ 6]? = some (.code (nam_ 6) (cod_ 6) (mxl_ 6) (rty_ 6)) := by decide +kernel
theorem okA_7 : lw_tbl[jc_ 7]? = some (.code (nam_ 7) (cod_ 7) (mxl_ 7) (rty_ 7)) := by decide +kernel
theorem okA_8 : lw_tbl[jc_ 8]? = some (.code (nam_ 8) (cod_ 8) (mxl_ 8) (rty_ 8)) := by decide +kernel
theorem okA_9 : lw_tbl[jc_ 9]? = some (.code (nam_ 9) (cod_ 9) (mxl_ 9) (rty_ 9)) := by decide +kernel
theorem okA_10 : lw_tbl[jc_ 10]? = some (.code (nam_ 10) (cod_ 10) (mxl_ 10) (rty_ 10)) := by decide +kernel
theorem okA_11 : lw_tbl[jc_ 11]? = some (.code (nam_ 11) (cod_ 11) (mxl_ 11) (rty_ 11)) := by decide +kernel
theorem okA_12 : lw_tbl[jc_ 12]? = some (.code (nam_ 12) (cod_ 12) (mxl_ 12) (rty_ 12)) := by decide +kernel
theorem okA_13 : lw_tbl[jc_ 13]? = some (.code (nam_ 13) (cod_ 13) (mxl_ 13) (rty_ 13)) := by decide +kernel
theorem okA_14 : lw_tbl[jc_ 14]? = some (.code (nam_ 14) (cod_ 14) (mxl_ 14) (rty_ 14)) := by decide +kernel
theorem okA_15 : lw_tbl[jc_ 15]? = some (.code (nam_ 15) (cod_ 15) (mxl_ 15) (rty_ 15)) := by decide +kernel
theorem okA_16 : lw_tbl[jc_ 16]? = some (.code (nam_ 16) (cod_ 16) (mxl_ 16) (rty_ 16)) := by decide +kernel
theorem okA_17 : lw_tbl[jc_ 17]? = some (.code (nam_ 17) (cod_ 17) (mxl_ 17) (rty_ 17)) := by decide +kernel
theorem okA_18 : lw_tbl[jc_ 18]? = some (.code (nam_ 18) (cod_ 18) (mxl_ 18) (rty_ 18)) := by decide +kernel
theorem okA_19 : lw_tbl[jc_ 19]? = some (.code (nam_ 19) (cod_ 19) (mxl_ 19) (rty_ 19)) := by decide +kernel
theorem okA_20 : lw_tbl[jc_ 20]? = some (.code (nam_ 20) (cod_ 20) (mxl_ 20) (rty_ 20)) := by decide +kernel
theorem okA_21 : lw_tbl[jc_ 21]? = some (.code (nam_ 21) (cod_ 21) (mxl_ 21) (rty_ 21)) := by decide +kernel
theorem okA_22 : lw_tbl[jc_ 22]? = some (.code (nam_ 22) (cod_ 22) (mxl_ 22) (rty_ 22)) := by decide +kernel
theorem okA_23 : lw_tbl[jc_ 23]? = some (.code (nam_ 23) (cod_ 23) (mxl_ 23) (rty_ 23)) := by decide +kernel
theorem okA_24 : lw_tbl[jc_ 24]? = some (.code (nam_ 24) (cod_ 24) (mxl_ 24) (rty_ 24)) := by decide +kernel
theorem okA_25 : lw_tbl[jc_ 25]? = some (.code (nam_ 25) (cod_ 25) (mxl_ 25) (rty_ 25)) := by decide +kernel
theorem okA_26 : lw_tbl[jc_ 26]? = some (.code (nam_ 26) (cod_ 26) (mxl_ 26) (rty_ 26)) := by decide +kernel
theorem okA_27 : lw_tbl[jc_ 27]? = some (.code (nam_ 27) (cod_ 27) (mxl_ 27) (rty_ 27)) := by decide +kernel
theorem okA_28 : lw_tbl[jc_ 28]? = some (.code (nam_ 28) (cod_ 28) (mxl_ 28) (rty_ 28)) := by decide +kernel
theorem okA_29 : lw_tbl[jc_ 29]? = some (.code (nam_ 29) (cod_ 29) (mxl_ 29) (rty_ 29)) := by decide +kernel
theorem okA_30 : lw_tbl[jc_ 30]? = some (.code (nam_ 30) (cod_ 30) (mxl_ 30) (rty_ 30)) := by decide +kernel
theorem okA_31 : lw_tbl[jc_ 31]? = some (.code (nam_ 31) (cod_ 31) (mxl_ 31) (rty_ 31)) := by decide +kernel
theorem okA_32 : lw_tbl[jc_ 32]? = some (.code (nam_ 32) (cod_ 32) (mxl_ 32) (rty_ 32)) := by decide +kernel
theorem okA_33 : lw_tbl[jc_ 33]? = some (.code (nam_ 33) (cod_ 33) (mxl_ 33) (rty_ 33)) := by decide +kernel
theorem okA_34 : lw_tbl[jc_ 34]? = some (.code (nam_ 34) (cod_ 34) (mxl_ 34) (rty_ 34)) := by decide +kernel
theorem okA_35 : lw_tbl[jc_ 35]? = some (.code (nam_ 35) (cod_ 35) (mxl_ 35) (rty_ 35)) := by decide +kernel
theorem okA_36 : lw_tbl[jc_ 36]? = some (.code (nam_ 36) (cod_ 36) (mxl_ 36) (rty_ 36)) := by decide +kernel
theorem okA_37 : lw_tbl[jc_ 37]? = some (.code (nam_ 37) (cod_ 37) (mxl_ 37) (rty_ 37)) := by decide +kernel
theorem okA_38 : lw_tbl[jc_ 38]? = some (.code (nam_ 38) (cod_ 38) (mxl_ 38) (rty_ 38)) := by decide +kernel
theorem okA_39 : lw_tbl[jc_ 39]? = some (.code (nam_ 39) (cod_ 39) (mxl_ 39) (rty_ 39)) := by decide +kernel
theorem okA_40 : lw_tbl[jc_ 40]? = some (.code (nam_ 40) (cod_ 40) (mxl_ 40) (rty_ 40)) := by decide +kernel
theorem okA_41 : lw_tbl[jc_ 41]? = some (.code (nam_ 41) (cod_ 41) (mxl_ 41) (rty_ 41)) := by decide +kernel
theorem okA_42 : lw_tbl[jc_ 42]? = some (.code (nam_ 42) (cod_ 42) (mxl_ 42) (rty_ 42)) := by decide +kernel
theorem okA_43 : lw_tbl[jc_ 43]? = some (.code (nam_ 43) (cod_ 43) (mxl_ 43) (rty_ 43)) := by decide +kernel
theorem okA_44 : lw_tbl[jc_ 44]? = some (.code (nam_ 44) (cod_ 44) (mxl_ 44) (rty_ 44)) := by decide +kernel
theorem okA_45 : lw_tbl[jc_ 45]? = some (.code (nam_ 45) (cod_ 45) (mxl_ 45) (rty_ 45)) := by decide +kernel
theorem okA_46 : lw_tbl[jc_ 46]? = some (.code (nam_ 46) (cod_ 46) (mxl_ 46) (rty_ 46)) := by decide +kernel
theorem okA_47 : lw_tbl[jc_ 47]? = some (.code (nam_ 47) (cod_ 47) (mxl_ 47) (rty_ 47)) := by decide +kernel
theorem okA_48 : lw_tbl[jc_ 48]? = some (.code (nam_ 48) (cod_ 48) (mxl_ 48) (rty_ 48)) := by decide +kernel
theorem okA_49 : lw_tbl[jc_ 49]? = some (.code (nam_ 49) (cod_ 49) (mxl_ 49) (rty_ 49)) := by decide +kernel
theorem okA_50 : lw_tbl[jc_ 50]? = some (.code (nam_ 50) (cod_ 50) (mxl_ 50) (rty_ 50)) := by decide +kernel
theorem okA_51 : lw_tbl[jc_ 51]? = some (.code (nam_ 51) (cod_ 51) (mxl_ 51) (rty_ 51)) := by decide +kernel
theorem okA_52 : lw_tbl[jc_ 52]? = some (.code (nam_ 52) (cod_ 52) (mxl_ 52) (rty_ 52)) := by decide +kernel
theorem okA_53 : lw_tbl[jc_ 53]? = some (.code (nam_ 53) (cod_ 53) (mxl_ 53) (rty_ 53)) := by decide +kernel
theorem okA_54 : lw_tbl[jc_ 54]? = some (.code (nam_ 54) (cod_ 54) (mxl_ 54) (rty_ 54)) := by decide +kernel
theorem okA_55 : lw_tbl[jc_ 55]? = some (.code (nam_ 55) (cod_ 55) (mxl_ 55) (rty_ 55)) := by decide +kernel
theorem okA_56 : lw_tbl[jc_ 56]? = some (.code (nam_ 56) (cod_ 56) (mxl_ 56) (rty_ 56)) := by decide +kernel
theorem okA_57 : lw_tbl[jc_ 57]? = some (.code (nam_ 57) (cod_ 57) (mxl_ 57) (rty_ 57)) := by decide +kernel
theorem okA_58 : lw_tbl[jc_ 58]? = some (.code (nam_ 58) (cod_ 58) (mxl_ 58) (rty_ 58)) := by decide +kernel
theorem okA_59 : lw_tbl[jc_ 59]? = some (.code (nam_ 59) (cod_ 59) (mxl_ 59) (rty_ 59)) := by decide +kernel
theorem okA_60 : lw_tbl[jc_ 60]? = some (.code (nam_ 60) (cod_ 60) (mxl_ 60) (rty_ 60)) := by decide +kernel
theorem okA_61 : lw_tbl[jc_ 61]? = some (.code (nam_ 61) (cod_ 61) (mxl_ 61) (rty_ 61)) := by decide +kernel
theorem okA_62 : lw_tbl[jc_ 62]? = some (.code (nam_ 62) (cod_ 62) (mxl_ 62) (rty_ 62)) := by decide +kernel
theorem okA_63 : lw_tbl[jc_ 63]? = some (.code (nam_ 63) (cod_ 63) (mxl_ 63) (rty_ 63)) := by decide +kernel
theorem okA_64 : lw_tbl[jc_ 64]? = some (.code (nam_ 64) (cod_ 64) (mxl_ 64) (rty_ 64)) := by decide +kernel
theorem okA_65 : lw_tbl[jc_ 65]? = some (.code (nam_ 65) (cod_ 65) (mxl_ 65) (rty_ 65)) := by decide +kernel
theorem okA_66 : lw_tbl[jc_ 66]? = some (.code (nam_ 66) (cod_ 66) (mxl_ 66) (rty_ 66)) := by decide +kernel
theorem okA_67 : lw_tbl[jc_ 67]? = some (.code (nam_ 67) (cod_ 67) (mxl_ 67) (rty_ 67)) := by decide +kernel
theorem okA_68 : lw_tbl[jc_ 68]? = some (.code (nam_ 68) (cod_ 68) (mxl_ 68) (rty_ 68)) := by decide +kernel
theorem okA_69 : lw_tbl[jc_ 69]? = some (.code (nam_ 69) (cod_ 69) (mxl_ 69) (rty_ 69)) := by decide +kernel
theorem okA_70 : lw_tbl[jc_ 70]? = some (.code (nam_ 70) (cod_ 70) (mxl_ 70) (rty_ 70)) := by decide +kernel
theorem okA_71 : lw_tbl[jc_ 71]? = some (.code (nam_ 71) (cod_ 71) (mxl_ 71) (rty_ 71)) := by decide +kernel
theorem okA_72 : lw_tbl[jc_ 72]? = some (.code (nam_ 72) (cod_ 72) (mxl_ 72) (rty_ 72)) := by decide +kernel
theorem okA_73 : lw_tbl[jc_ 73]? = some (.code (nam_ 73) (cod_ 73) (mxl_ 73) (rty_ 73)) := by decide +kernel
theorem okA_74 : lw_tbl[jc_ 74]? = some (.code (nam_ 74) (cod_ 74) (mxl_ 74) (rty_ 74)) := by decide +kernel
theorem okA_75 : lw_tbl[jc_ 75]? = some (.code (nam_ 75) (cod_ 75) (mxl_ 75) (rty_ 75)) := by decide +kernel
theorem okA_76 : lw_tbl[jc_ 76]? = some (.code (nam_ 76) (cod_ 76) (mxl_ 76) (rty_ 76)) := by decide +kernel
theorem okA_77 : lw_tbl[jc_ 77]? = some (.code (nam_ 77) (cod_ 77) (mxl_ 77) (rty_ 77)) := by decide +kernel
theorem okA_78 : lw_tbl[jc_ 78]? = some (.code (nam_ 78) (cod_ 78) (mxl_ 78) (rty_ 78)) := by decide +kernel
theorem okA_79 : lw_tbl[jc_ 79]? = some (.code (nam_ 79) (cod_ 79) (mxl_ 79) (rty_ 79)) := by decide +kernel
theorem okA_80 : lw_tbl[jc_ 80]? = some (.code (nam_ 80) (cod_ 80) (mxl_ 80) (rty_ 80)) := by decide +kernel
theorem okA_81 : lw_tbl[jc_ 81]? = some (.code (nam_ 81) (cod_ 81) (mxl_ 81) (rty_ 81)) := by decide +kernel
theorem okA_82 : lw_tbl[jc_ 82]? = some (.code (nam_ 82) (cod_ 82) (mxl_ 82) (rty_ 82)) := by decide +kernel
theorem okA_83 : lw_tbl[jc_ 83]? = some (.code (nam_ 83) (cod_ 83) (mxl_ 83) (rty_ 83)) := by decide +kernel
theorem okA_84 : lw_tbl[jc_ 84]? = some (.code (nam_ 84) (cod_ 84) (mxl_ 84) (rty_ 84)) := by decide +kernel
theorem okA_85 : lw_tbl[jc_ 85]? = some (.code (nam_ 85) (cod_ 85) (mxl_ 85) (rty_ 85)) := by decide +kernel
theorem okA_86 : lw_tbl[jc_ 86]? = some (.code (nam_ 86) (cod_ 86) (mxl_ 86) (rty_ 86)) := by decide +kernel
theorem okA_87 : lw_tbl[jc_ 87]? = some (.code (nam_ 87) (cod_ 87) (mxl_ 87) (rty_ 87)) := by decide +kernel
theorem okA_88 : lw_tbl[jc_ 88]? = some (.code (nam_ 88) (cod_ 88) (mxl_ 88) (rty_ 88)) := by decide +kernel
theorem okA_89 : lw_tbl[jc_ 89]? = some (.code (nam_ 89) (cod_ 89) (mxl_ 89) (rty_ 89)) := by decide +kernel
theorem okA_90 : lw_tbl[jc_ 90]? = some (.code (nam_ 90) (cod_ 90) (mxl_ 90) (rty_ 90)) := by decide +kernel
theorem okA_91 : lw_tbl[jc_ 91]? = some (.code (nam_ 91) (cod_ 91) (mxl_ 91) (rty_ 91)) := by decide +kernel
theorem okA_92 : lw_tbl[jc_ 92]? = some (.code (nam_ 92) (cod_ 92) (mxl_ 92) (rty_ 92)) := by decide +kernel
theorem okA_93 : lw_tbl[jc_ 93]? = some (.code (nam_ 93) (cod_ 93) (mxl_ 93) (rty_ 93)) := by decide +kernel
theorem okA_94 : lw_tbl[jc_ 94]? = some (.code (nam_ 94) (cod_ 94) (mxl_ 94) (rty_ 94)) := by decide +kernel
theorem okA_95 : lw_tbl[jc_ 95]? = some (.code (nam_ 95) (cod_ 95) (mxl_ 95) (rty_ 95)) := by decide +kernel
theorem okA_96 : lw_tbl[jc_ 96]? = some (.code (nam_ 96) (cod_ 96) (mxl_ 96) (rty_ 96)) := by decide +kernel
theorem okA_97 : lw_tbl[jc_ 97]? = some (.code (nam_ 97) (cod_ 97) (mxl_ 97) (rty_ 97)) := by decide +kernel
theorem okA_98 : lw_tbl[jc_ 98]? = some (.code (nam_ 98) (cod_ 98) (mxl_ 98) (rty_ 98)) := by decide +kernel
theorem okA_99 : lw_tbl[jc_ 99]? = some (.code (nam_ 99) (cod_ 99) (mxl_ 99) (rty_ 99)) := by decide +kernel
theorem okA_100 : lw_tbl[jc_ 100]? = some (.code (nam_ 100) (cod_ 100) (mxl_ 100) (rty_ 100)) := by decide +kernel
theorem okA_101 : lw_tbl[jc_ 101]? = some (.code (nam_ 101) (cod_ 101) (mxl_ 101) (rty_ 101)) := by decide +kernel
theorem okA_102 : lw_tbl[jc_ 102]? = some (.code (nam_ 102) (cod_ 102) (mxl_ 102) (rty_ 102)) := by decide +kernel
theorem okA_103 : lw_tbl[jc_ 103]? = some (.code (nam_ 103) (cod_ 103) (mxl_ 103) (rty_ 103)) := by decide +kernel
theorem okA_104 : lw_tbl[jc_ 104]? = some (.code (nam_ 104) (cod_ 104) (mxl_ 104) (rty_ 104)) := by decide +kernel
theorem okA_105 : lw_tbl[jc_ 105]? = some (.code (nam_ 105) (cod_ 105) (mxl_ 105) (rty_ 105)) := by decide +kernel
theorem okA_106 : lw_tbl[jc_ 106]? = some (.code (nam_ 106) (cod_ 106) (mxl_ 106) (rty_ 106)) := by decide +kernel
theorem okA_107 : lw_tbl[jc_ 107]? = some (.code (nam_ 107) (cod_ 107) (mxl_ 107) (rty_ 107)) := by decide +kernel
theorem okA_108 : lw_tbl[jc_ 108]? = some (.code (nam_ 108) (cod_ 108) (mxl_ 108) (rty_ 108)) := by decide +kernel
theorem okA_109 : lw_tbl[jc_ 109]? = some (.code (nam_ 109) (cod_ 109) (mxl_ 109) (rty_ 109)) := by decide +kernel
theorem okA_110 : lw_tbl[jc_ 110]? = some (.code (nam_ 110) (cod_ 110) (mxl_ 110) (rty_ 110)) := by decide +kernel
theorem okA_111 : lw_tbl[jc_ 111]? = some (.code (nam_ 111) (cod_ 111) (mxl_ 111) (rty_ 111)) := by decide +kernel
theorem okA_112 : lw_tbl[jc_ 112]? = some (.code (nam_ 112) (cod_ 112) (mxl_ 112) (rty_ 112)) := by decide +kernel
theorem okA_113 : lw_tbl[jc_ 113]? = some (.code (nam_ 113) (cod_ 113) (mxl_ 113) (rty_ 113)) := by decide +kernel
theorem okA_114 : lw_tbl[jc_ 114]? = some (.code (nam_ 114) (cod_ 114) (mxl_ 114) (rty_ 114)) := by decide +kernel
theorem okA_115 : lw_tbl[jc_ 115]? = some (.code (nam_ 115) (cod_ 115) (mxl_ 115) (rty_ 115)) := by decide +kernel
theorem okA_116 : lw_tbl[jc_ 116]? = some (.code (nam_ 116) (cod_ 116) (mxl_ 116) (rty_ 116)) := by decide +kernel
theorem okA_117 : lw_tbl[jc_ 117]? = some (.code (nam_ 117) (cod_ 117) (mxl_ 117) (rty_ 117)) := by decide +kernel
theorem okA_118 : lw_tbl[jc_ 118]? = some (.code (nam_ 118) (cod_ 118) (mxl_ 118) (rty_ 118)) := by decide +kernel
theorem okA_119 : lw_tbl[jc_ 119]? = some (.code (nam_ 119) (cod_ 119) (mxl_ 119) (rty_ 119)) := by decide +kernel
theorem okA_120 : lw_tbl[jc_ 120]? = some (.code (nam_ 120) (cod_ 120) (mxl_ 120) (rty_ 120)) := by decide +kernel
theorem okA_121 : lw_tbl[jc_ 121]? = some (.code (nam_ 121) (cod_ 121) (mxl_ 121) (rty_ 121)) := by decide +kernel
theorem okA_122 : lw_tbl[jc_ 122]? = some (.code (nam_ 122) (cod_ 122) (mxl_ 122) (rty_ 122)) := by decide +kernel
theorem okA_123 : lw_tbl[jc_ 123]? = some (.code (nam_ 123) (cod_ 123) (mxl_ 123) (rty_ 123)) := by decide +kernel
theorem okA_124 : lw_tbl[jc_ 124]? = some (.code (nam_ 124) (cod_ 124) (mxl_ 124) (rty_ 124)) := by decide +kernel
theorem okA_125 : lw_tbl[jc_ 125]? = some (.code (nam_ 125) (cod_ 125) (mxl_ 125) (rty_ 125)) := by decide +kernel
theorem okA_126 : lw_tbl[jc_ 126]? = some (.code (nam_ 126) (cod_ 126) (mxl_ 126) (rty_ 126)) := by decide +kernel
theorem okA_127 : lw_tbl[jc_ 127]? = some (.code (nam_ 127) (cod_ 127) (mxl_ 127) (rty_ 127)) := by decide +kernel
theorem okA_128 : lw_tbl[jc_ 128]? = some (.code (nam_ 128) (cod_ 128) (mxl_ 128) (rty_ 128)) := by decide +kernel
theorem okA_129 : lw_tbl[jc_ 129]? = some (.code (nam_ 129) (cod_ 129) (mxl_ 129) (rty_ 129)) := by decide +kernel
theorem okA_130 : lw_tbl[jc_ 130]? = some (.code (nam_ 130) (cod_ 130) (mxl_ 130) (rty_ 130)) := by decide +kernel
theorem okA_131 : lw_tbl[jc_ 131]? = some (.code (nam_ 131) (cod_ 131) (mxl_ 131) (rty_ 131)) := by decide +kernel
theorem okA_132 : lw_tbl[jc_ 132]? = some (.code (nam_ 132) (cod_ 132) (mxl_ 132) (rty_ 132)) := by decide +kernel
theorem okA_133 : lw_tbl[jc_ 133]? = some (.code (nam_ 133) (cod_ 133) (mxl_ 133) (rty_ 133)) := by decide +kernel
theorem okA_134 : lw_tbl[jc_ 134]? = some (.code (nam_ 134) (cod_ 134) (mxl_ 134) (rty_ 134)) := by decide +kernel
theorem okA_135 : lw_tbl[jc_ 135]? = some (.code (nam_ 135) (cod_ 135) (mxl_ 135) (rty_ 135)) := by decide +kernel
theorem okA_136 : lw_tbl[jc_ 136]? = some (.code (nam_ 136) (cod_ 136) (mxl_ 136) (rty_ 136)) := by decide +kernel
theorem okA_137 : lw_tbl[jc_ 137]? = some (.code (nam_ 137) (cod_ 137) (mxl_ 137) (rty_ 137)) := by decide +kernel
theorem okA_138 : lw_tbl[jc_ 138]? = some (.code (nam_ 138) (cod_ 138) (mxl_ 138) (rty_ 138)) := by decide +kernel
theorem okA_139 : lw_tbl[jc_ 139]? = some (.code (nam_ 139) (cod_ 139) (mxl_ 139) (rty_ 139)) := by decide +kernel
theorem okA_140 : lw_tbl[jc_ 140]? = some (.code (nam_ 140) (cod_ 140) (mxl_ 140) (rty_ 140)) := by decide +kernel
theorem okA_141 : lw_tbl[jc_ 141]? = some (.code (nam_ 141) (cod_ 141) (mxl_ 141) (rty_ 141)) := by decide +kernel
theorem okA_142 : lw_tbl[jc_ 142]? = some (.code (nam_ 142) (cod_ 142) (mxl_ 142) (rty_ 142)) := by decide +kernel
theorem okA_143 : lw_tbl[jc_ 143]? = some (.code (nam_ 143) (cod_ 143) (mxl_ 143) (rty_ 143)) := by decide +kernel
theorem okA_144 : lw_tbl[jc_ 144]? = some (.code (nam_ 144) (cod_ 144) (mxl_ 144) (rty_ 144)) := by decide +kernel
theorem okA_145 : lw_tbl[jc_ 145]? = some (.code (nam_ 145) (cod_ 145) (mxl_ 145) (rty_ 145)) := by decide +kernel
theorem okA_146 : lw_tbl[jc_ 146]? = some (.code (nam_ 146) (cod_ 146) (mxl_ 146) (rty_ 146)) := by decide +kernel
theorem okA_147 : lw_tbl[jc_ 147]? = some (.code (nam_ 147) (cod_ 147) (mxl_ 147) (rty_ 147)) := by decide +kernel
theorem okA_148 : lw_tbl[jc_ 148]? = some (.code (nam_ 148) (cod_ 148) (mxl_ 148) (rty_ 148)) := by decide +kernel
theorem okA_149 : lw_tbl[jc_ 149]? = some (.code (nam_ 149) (cod_ 149) (mxl_ 149) (rty_ 149)) := by decide +kernel
theorem okA_150 : lw_tbl[jc_ 150]? = some (.code (nam_ 150) (cod_ 150) (mxl_ 150) (rty_ 150)) := by decide +kernel
theorem okA_151 : lw_tbl[jc_ 151]? = some (.code (nam_ 151) (cod_ 151) (mxl_ 151) (rty_ 151)) := by decide +kernel
theorem okA_152 : lw_tbl[jc_ 152]? = some (.code (nam_ 152) (cod_ 152) (mxl_ 152) (rty_ 152)) := by decide +kernel
theorem okA_153 : lw_tbl[jc_ 153]? = some (.code (nam_ 153) (cod_ 153) (mxl_ 153) (rty_ 153)) := by decide +kernel
theorem okA_154 : lw_tbl[jc_ 154]? = some (.code (nam_ 154) (cod_ 154) (mxl_ 154) (rty_ 154)) := by decide +kernel
theorem okA_155 : lw_tbl[jc_ 155]? = some (.code (nam_ 155) (cod_ 155) (mxl_ 155) (rty_ 155)) := by decide +kernel
theorem okA_156 : lw_tbl[jc_ 156]? = some (.code (nam_ 156) (cod_ 156) (mxl_ 156) (rty_ 156)) := by decide +kernel
theorem okA_157 : lw_tbl[jc_ 157]? = some (.code (nam_ 157) (cod_ 157) (mxl_ 157) (rty_ 157)) := by decide +kernel
theorem okA_158 : lw_tbl[jc_ 158]? = some (.code (nam_ 158) (cod_ 158) (mxl_ 158) (rty_ 158)) := by decide +kernel
theorem okA_159 : lw_tbl[jc_ 159]? = some (.code (nam_ 159) (cod_ 159) (mxl_ 159) (rty_ 159)) := by decide +kernel
theorem okA_160 : lw_tbl[jc_ 160]? = some (.code (nam_ 160) (cod_ 160) (mxl_ 160) (rty_ 160)) := by decide +kernel
theorem okA_161 : lw_tbl[jc_ 161]? = some (.code (nam_ 161) (cod_ 161) (mxl_ 161) (rty_ 161)) := by decide +kernel
theorem okA_162 : lw_tbl[jc_ 162]? = some (.code (nam_ 162) (cod_ 162) (mxl_ 162) (rty_ 162)) := by decide +kernel
theorem okA_163 : lw_tbl[jc_ 163]? = some (.code (nam_ 163) (cod_ 163) (mxl_ 163) (rty_ 163)) := by decide +kernel
theorem okA_164 : lw_tbl[jc_ 164]? = some (.code (nam_ 164) (cod_ 164) (mxl_ 164) (rty_ 164)) := by decide +kernel
theorem okA_165 : lw_tbl[jc_ 165]? = some (.code (nam_ 165) (cod_ 165) (mxl_ 165) (rty_ 165)) := by decide +kernel
theorem okA_166 : lw_tbl[jc_ 166]? = some (.code (nam_ 166) (cod_ 166) (mxl_ 166) (rty_ 166)) := by decide +kernel
theorem okA_167 : lw_tbl[jc_ 167]? = some (.code (nam_ 167) (cod_ 167) (mxl_ 167) (rty_ 167)) := by decide +kernel
theorem okA_168 : lw_tbl[jc_ 168]? = some (.code (nam_ 168) (cod_ 168) (mxl_ 168) (rty_ 168)) := by decide +kernel
theorem okA_169 : lw_tbl[jc_ 169]? = some (.code (nam_ 169) (cod_ 169) (mxl_ 169) (rty_ 169)) := by decide +kernel
theorem okA_170 : lw_tbl[jc_ 170]? = some (.code (nam_ 170) (cod_ 170) (mxl_ 170) (rty_ 170)) := by decide +kernel
theorem okA_171 : lw_tbl[jc_ 171]? = some (.code (nam_ 171) (cod_ 171) (mxl_ 171) (rty_ 171)) := by decide +kernel
theorem okA_172 : lw_tbl[jc_ 172]? = some (.code (nam_ 172) (cod_ 172) (mxl_ 172) (rty_ 172)) := by decide +kernel
theorem okA_173 : lw_tbl[jc_ 173]? = some (.code (nam_ 173) (cod_ 173) (mxl_ 173) (rty_ 173)) := by decide +kernel
theorem okA_174 : lw_tbl[jc_ 174]? = some (.code (nam_ 174) (cod_ 174) (mxl_ 174) (rty_ 174)) := by decide +kernel
theorem okA_175 : lw_tbl[jc_ 175]? = some (.code (nam_ 175) (cod_ 175) (mxl_ 175) (rty_ 175)) := by decide +kernel
theorem okA_179 : lw_tbl[jc_ 179]? = some (.code (nam_ 179) (cod_ 179) (mxl_ 179) (rty_ 179)) := by decide +kernel
theorem okA_180 : lw_tbl[jc_ 180]? = some (.code (nam_ 180) (cod_ 180) (mxl_ 180) (rty_ 180)) := by decide +kernel
theorem okA_181 : lw_tbl[jc_ 181]? = some (.code (nam_ 181) (cod_ 181) (mxl_ 181) (rty_ 181)) := by decide +kernel
theorem okA_182 : lw_tbl[jc_ 182]? = some (.code (nam_ 182) (cod_ 182) (mxl_ 182) (rty_ 182)) := by decide +kernel
theorem okA_183 : lw_tbl[jc_ 183]? = some (.code (nam_ 183) (cod_ 183) (mxl_ 183) (rty_ 183)) := by decide +kernel
theorem okA_184 : lw_tbl[jc_ 184]? = some (.code (nam_ 184) (cod_ 184) (mxl_ 184) (rty_ 184)) := by decide +kernel
theorem okA_185 : lw_tbl[jc_ 185]? = some (.code (nam_ 185) (cod_ 185) (mxl_ 185) (rty_ 185)) := by decide +kernel
theorem okA_186 : lw_tbl[jc_ 186]? = some (.code (nam_ 186) (cod_ 186) (mxl_ 186) (rty_ 186)) := by decide +kernel
theorem okA_187 : lw_tbl[jc_ 187]? = some (.code (nam_ 187) (cod_ 187) (mxl_ 187) (rty_ 187)) := by decide +kernel
theorem okA_188 : lw_tbl[jc_ 188]? = some (.code (nam_ 188) (cod_ 188) (mxl_ 188) (rty_ 188)) := by decide +kernel
theorem okA_189 : lw_tbl[jc_ 189]? = some (.code (nam_ 189) (cod_ 189) (mxl_ 189) (rty_ 189)) := by decide +kernel
theorem okA_190 : lw_tbl[jc_ 190]? = some (.code (nam_ 190) (cod_ 190) (mxl_ 190) (rty_ 190)) := by decide +kernel
theorem okA_191 : lw_tbl[jc_ 191]? = some (.code (nam_ 191) (cod_ 191) (mxl_ 191) (rty_ 191)) := by decide +kernel
theorem okA_192 : lw_tbl[jc_ 192]? = some (.code (nam_ 192) (cod_ 192) (mxl_ 192) (rty_ 192)) := by decide +kernel
theorem okA_193 : lw_tbl[jc_ 193]? = some (.code (nam_ 193) (cod_ 193) (mxl_ 193) (rty_ 193)) := by decide +kernel
theorem okA_194 : lw_tbl[jc_ 194]? = some (.code (nam_ 194) (cod_ 194) (mxl_ 194) (rty_ 194)) := by decide +kernel
theorem okA_195 : lw_tbl[jc_ 195]? = some (.code (nam_ 195) (cod_ 195) (mxl_ 195) (rty_ 195)) := by decide +kernel
theorem okA_196 : lw_tbl[jc_ 196]? = some (.code (nam_ 196) (cod_ 196) (mxl_ 196) (rty_ 196)) := by decide +kernel
theorem okA_197 : lw_tbl[jc_ 197]? = some (.code (nam_ 197) (cod_ 197) (mxl_ 197) (rty_ 197)) := by decide +kernel
theorem okA_198 : lw_tbl[jc_ 198]? = some (.code (nam_ 198) (cod_ 198) (mxl_ 198) (rty_ 198)) := by decide +kernel
theorem okA_199 : lw_tbl[jc_ 199]? = some (.code (nam_ 199) (cod_ 199) (mxl_ 199) (rty_ 199)) := by decide +kernel
theorem okA_ : ∀ q, q < 200 → sp_ q = false → lw_tbl[jc_ q]? = some (.code (nam_ q) (cod_ q) (mxl_ q) (rty_ q))
  | 0, _, h => okA_0
  | 1, _, h => okA_1
  | 2, _, h => okA_2
  | 3, _, h => okA_3
  | 4, _, h => okA_4
  | 5, _, h => okA_5
  | 6, _, h => okA_6
  | 7, _, h => okA_7
  | 8, _, h => okA_8
  | 9, _, h => okA_9
  | 10, _, h => okA_10
  | 11, _, h => okA_11
  | 12, _, h => okA_12
  | 13, _, h => okA_13
  | 14, _, h => okA_14
  | 15, _, h => okA_15
  | 16, _, h => okA_16
  | 17, _, h => okA_17
  | 18, _, h => okA_18
  | 19, _, h => okA_19
  | 20, _, h => okA_20
  | 21, _, h => okA_21
  | 22, _, h => okA_22
  | 23, _, h => okA_23
  | 24, _, h => okA_24
  | 25, _, h => okA_25
  | 26, _, h => okA_26
  | 27, _, h => okA_27
  | 28, _, h => okA_28
  | 29, _, h => okA_29
  | 30, _, h => okA_30
  | 31, _, h => okA_31
  | 32, _, h => okA_32
  | 33, _, h => okA_33
  | 34, _, h => okA_34
  | 35, _, h => okA_35
  | 36, _, h => okA_36
  | 37, _, h => okA_37
  | 38, _, h => okA_38
  | 39, _, h => okA_39
  | 40, _, h => okA_40
  | 41, _, h => okA_41
  | 42, _, h => okA_42
  | 43, _, h => okA_43
  | 44, _, h => okA_44
  | 45, _, h => okA_45
  | 46, _, h => okA_46
  | 47, _, h => okA_47
  | 48, _, h => okA_48
  | 49, _, h => okA_49
  | 50, _, h => okA_50
  | 51, _, h => okA_51
  | 52, _, h => okA_52
  | 53, _, h => okA_53
  | 54, _, h => okA_54
  | 55, _, h => okA_55
  | 56, _, h => okA_56
  | 57, _, h => okA_57
  | 58, _, h => okA_58
  | 59, _, h => okA_59
  | 60, _, h => okA_60
  | 61, _, h => okA_61
  | 62, _, h => okA_62
  | 63, _, h => okA_63
  | 64, _, h => okA_64
  | 65, _, h => okA_65
  | 66, _, h => okA_66
  | 67, _, h => okA_67
  | 68, _, h => okA_68
  | 69, _, h => okA_69
  | 70, _, h => okA_70
  | 71, _, h => okA_71
  | 72, _, h => okA_72
  | 73, _, h => okA_73
  | 74, _, h => okA_74
  | 75, _, h => okA_75
  | 76, _, h => okA_76
  | 77, _, h => okA_77
  | 78, _, h => okA_78
  | 79, _, h => okA_79
  | 80, _, h => okA_80
  | 81, _, h => okA_81
  | 82, _, h => okA_82
  | 83, _, h => okA_83
  | 84, _, h => okA_84
  | 85, _, h => okA_85
  | 86, _, h => okA_86
  | 87, _, h => okA_87
  | 88, _, h => okA_88
  | 89, _, h => okA_89
  | 90, _, h => okA_90
  | 91, _, h => okA_91
  | 92, _, h => okA_92
  | 93, _, h => okA_93
  | 94, _, h => okA_94
  | 95, _, h => okA_95
  | 96, _, h => okA_96
  | 97, _, h => okA_97
  | 98, _, h => okA_98
  | 99, _, h => okA_99
  | 100, _, h => okA_100
  | 101, _, h => okA_101
  | 102, _, h => okA_102
  | 103, _, h => okA_103
  | 104, _, h => okA_104
  | 105, _, h => okA_105
  | 106, _, h => okA_106
  | 107, _, h => okA_107
  | 108, _, h => okA_108
  | 109, _, h => okA_109
  | 110, _, h => okA_110
  | 111, _, h => okA_111
  | 112, _, h => okA_112
  | 113, _, h => okA_113
  | 114, _, h => okA_114
  | 115, _, h => okA_115
  | 116, _, h => okA_116
  | 117, _, h => okA_117
  | 118, _, h => okA_118
  | 119, _, h => okA_119
  | 120, _, h => okA_120
  | 121, _, h => okA_121
  | 122, _, h => okA_122
  | 123, _, h => okA_123
  | 124, _, h => okA_124
  | 125, _, h => okA_125
  | 126, _, h => okA_126
  | 127, _, h => okA_127
  | 128, _, h => okA_128
  | 129, _, h => okA_129
  | 130, _, h => okA_130
  | 131, _, h => okA_131
  | 132, _, h => okA_132
  | 133, _, h => okA_133
  | 134, _, h => okA_134
  | 135, _, h => okA_135
  | 136, _, h => okA_136
  | 137, _, h => okA_137
  | 138, _, h => okA_138
  | 139, _, h => okA_139
  | 140, _, h => okA_140
  | 141, _, h => okA_141
  | 142, _, h => okA_142
  | 143, _, h => okA_143
  | 144, _, h => okA_144
  | 145, _, h => okA_145
  | 146, _, h => okA_146
  | 147, _, h => okA_147
  | 148, _, h => okA_148
  | 149, _, h => okA_149
  | 150, _, h => okA_150
  | 151, _, h => okA_151
  | 152, _, h => okA_152
  | 153, _, h => okA_153
  | 154, _, h => okA_154
  | 155, _, h => okA_155
  | 156, _, h => okA_156
  | 157, _, h => okA_157
  | 158, _, h => okA_158
  | 159, _, h => okA_159
  | 160, _, h => okA_160
  | 161, _, h => okA_161
  | 162, _, h => okA_162
  | 163, _, h => okA_163
  | 164, _, h => okA_164
  | 165, _, h => okA_165
  | 166, _, h => okA_166
  | 167, _, h => okA_167
  | 168, _, h => okA_168
  | 169, _, h => okA_169
  | 170, _, h => okA_170
  | 171, _, h => okA_171
  | 172, _, h => okA_172
  | 173, _, h => okA_173
  | 174, _, h => okA_174
  | 175, _, h => okA_175
  | 176, _, h => by cases h
  | 177, _, h => by cases h
  | 178, _, h => by cases h
  | 179, _, h => okA_179
  | 180, _, h => okA_180
  | 181, _, h => okA_181
  | 182, _, h => okA_182
  | 183, _, h => okA_183
  | 184, _, h => okA_184
  | 185, _, h => okA_185
  | 186, _, h => okA_186
  | 187, _, h => okA_187
  | 188, _, h => okA_188
  | 189, _, h => okA_189
  | 190, _, h => okA_190
  | 191, _, h => okA_191
  | 192, _, h => okA_192
  | 193, _, h => okA_193
  | 194, _, h => okA_194
  | 195, _, h => okA_195
  | 196, _, h => okA_196
  | 197, _, h => okA_197
  | 198, _, h => okA_198
  | 199, _, h => okA_199
  | q + 200, h, _ => by omega
theorem okB_ : (List.range 200).all (fun q => (q == 178) || ckB_ q) = true := by decide +kernel
theorem okC_ : (List.range 200).all (fun q => (q == 178) || ckC_ q) = true := by decide +kernel
theorem zokD_ : (List.range 200).all (fun q => (q == 178) || ckD_ q) = true := by decide +kernel
theorem okE_ : (List.range 200).all (fun q => (q == 178) || ckE_ q) = true := by decide +kernel
theorem zokF_ : (List.range 200).all (fun q => (q == 178) || ckF_ q) = true := by decide +kernel
theorem okW_176 : lw_tbl[jc_ 176]? = some (.codeWith (nam_ 176) (cod_ 176) (mxl_ 176) (rty_ 176) hh_) := by decide +kernel
theorem okW_177 : lw_tbl[jc_ 177]? = some (.codeWith (nam_ 177) (cod_ 177) (mxl_ 177) (rty_ 177) hh_) := by decide +kernel
/-- the pools -/
def ckm_ (k : Nat) (e : Nat × Nat × Nat × Nat) : Bool := (decide (e.2.1 = 1000) && (decide (lw_tbl[e.2.2.1]? = some (.methodLink (clnm_ k) e.1 Lib.objectInit)) && decide (e.2.2.2 = 0))) || (decide (e.2.1 < 200) && decide (lw_tbl[e.2.2.1]? = some (if e.2.2.2 = 1 then .methodLinkNest (clnm_ k) e.1 (nam_ e.2.1) RX8 else .methodLink (clnm_ k) e.1 (nam_ e.2.1))) && (decide (e.2.2.2 = 0) || (decide (e.2.2.2 = 1) && decide (e.2.1 = 88))))
theorem okm_ : (List.range 18).all (fun k => (mpl_.getD k []).all (ckm_ k)) = true := by decide +kernel
def ckf_ (k : Nat) (e : Nat × Nat × Nat × Nat × Nat) : Bool := if e.2.1 < 16 then decide (e.2.1 < 9) && (decide (e.2.2.1 < nfl_ e.2.1) && (decide (ft_ e.2.1 e.2.2.1 = e.2.2.2.1) && (fT_ e.2.2.2.1 (T_ e.2.1 e.2.2.1).2.2.1 && (decide (lw_tbl[e.2.2.2.2]? = some (.fieldLink (clnm_ k) e.1 (T_ e.2.1 e.2.2.1).1 (T_ e.2.1 e.2.2.1).2.1 (T_ e.2.1 e.2.2.1).2.2.1)) && decide ((T_ e.2.1 e.2.2.1).1 = clnm_ e.2.1))))) else if e.2.1 = 32 then (decide (e.2.2.1 = 0 ∧ e.2.2.2.1 = 0) && decide (lw_tbl[e.2.2.2.2]? = some (.fieldLink (clnm_ k) e.1 RX6 "what" "I"))) || (decide (e.2.2.1 = 1 ∧ e.2.2.2.1 = 2) && decide (lw_tbl[e.2.2.2.2]? = some (.fieldLink (clnm_ k) e.1 RX6 "spelling" "Ljava/lang/String;"))) else decide (e.2.1 = 33) && ((decide (e.2.2.1 = 0 ∧ e.2.2.2.1 = 2) && decide (lw_tbl[e.2.2.2.2]? = some (.fieldLink (clnm_ k) e.1 RJ0 "value" "[B"))) || (decide (e.2.2.1 = 1 ∧ e.2.2.2.1 = 4) && decide (lw_tbl[e.2.2.2.2]? = some (.fieldLink (clnm_ k) e.1 RJ0 "coder" "B"))))
theorem okf_ : (List.range 18).all (fun k => (fpl_.getD k []).all (ckf_ k)) = true := by decide +kernel
theorem zokt_ : (List.range 9).all (fun k => (List.range (nfl_ k)).all (fun p => fT_ (ft_ k p) (T_ k p).2.2.1)) = true := by decide +kernel
def ckc_ (k : Nat) (e : Nat × Nat × Nat) : Bool := (decide (e.2.1 < 9) && decide (lw_tbl[e.2.2]? = some (.classLink (clnm_ k) e.1 (clnm_ e.2.1)))) || (decide (e.2.1 = 32) && decide (lw_tbl[e.2.2]? = some (.classLink (clnm_ k) e.1 RX6))) || (decide (e.2.1 = 40) && decide (lw_tbl[e.2.2]? = some (.classLink (clnm_ k) e.1 "java/util/NoSuchElementException")))
theorem zokc_ : (List.range 18).all (fun k => (cpl_.getD k []).all (ckc_ k)) = true := by decide +kernel
/-- statics: class, name, type, what it holds -/
def stb_ : List (String × String × String × AV) := [("PlayCompany$TermReader", "TOKENS", "[LPlayCompany$Token;", vA (some 6030755)), ("PlayCompany$Token", "AND", "LPlayCompany$Token;", vA (some 1835040)), ("PlayCompany$Token", "AT_LEAST", "LPlayCompany$Token;", vA (some 4980768)), ("PlayCompany$Token", "CLOSE", "LPlayCompany$Token;", vA (some 4194336)), ("PlayCompany$Token", "FINISH", "LPlayCompany$Token;", vA (some 5505056)), ("PlayCompany$Token", "GUEST", "LPlayCompany$Token;", vA (some 2359328)), ("PlayCompany$Token", "IF", "LPlayCompany$Token;", vA (some 1310752)), ("PlayCompany$Token", "LEAST", "LPlayCompany$Token;", vA (some 786464)), ("PlayCompany$Token", "LESS", "LPlayCompany$Token;", vA (some 4718624)), ("PlayCompany$Token", "MAY", "LPlayCompany$Token;", vA (some 262176)), ("PlayCompany$Token", "MOST", "LPlayCompany$Token;", vA (some 524320)), ("PlayCompany$Token", "NOT", "LPlayCompany$Token;", vA (some 2097184)), ("PlayCompany$Token", "NUMBER", "LPlayCompany$Token;", vA (some 5242912)), ("PlayCompany$Token", "OPEN", "LPlayCompany$Token;", vA (some 3932192)), ("PlayCompany$Token", "OR", "LPlayCompany$Token;", vA (some 1572896)), ("PlayCompany$Token", "PAY", "LPlayCompany$Token;", vA (some 1048608)), ("PlayCompany$Token", "SEMICOLON", "LPlayCompany$Token;", vA (some 4456480)), ("PlayCompany$Token", "WRONG", "LPlayCompany$Token;", vA (some 5767200)), ("java/lang/String", "COMPACT_STRINGS", "Z", vI 1), ("jdk/internal/util/Preconditions", "SIOOBE_FORMATTER", "Ljava/util/function/BiFunction;", vX 1)]
def ckk_ (k : Nat) (e : Nat × AV × Nat × Nat) : Bool := match e.2.2.2 with
  | 0 => (match e.2.1 with
    | .inl x => decide (lw_tbl[e.2.2.1]? = some (.constant (clnm_ k) e.1 x))
    | .inr (.inl x) => decide (lw_tbl[e.2.2.1]? = some (.constantLong (clnm_ k) e.1 x))
    | _ => false)
  | 1 => stb_.any (fun q => decide (lw_tbl[e.2.2.1]? = some (.fieldLink (clnm_ k) e.1 q.1 q.2.1 q.2.2.1)) && decide (q.2.2.2 = e.2.1))
  | 2 => decide (k = 8)
  | _ => false
theorem okk_ : (List.range 18).all (fun k => (kpl_.getD k []).all (ckk_ k)) = true := by decide +kernel
theorem lookup_mem {α : Type} : ∀ {l : List (Nat × α)} {i : Nat} {v : α}, l.lookup i = some v → (i, v) ∈ l
  | [], _, _, h => by cases h
  | (j, w) :: t, i, v, h => by
    by_cases e : i = j
    · subst e
      simp [List.lookup] at h
      subst h
      exact List.mem_cons_self
    · have : List.lookup i ((j, w) :: t) = List.lookup i t := by simp [List.lookup, beq_eq_false_iff_ne.mpr e]
      rw [this] at h
      exact List.mem_cons_of_mem _ (lookup_mem h)
theorem pool_all {α : Type} {t : List (List (Nat × α))} {f : Nat → Nat × α → Bool} (h : (List.range 18).all (fun k => (t.getD k []).all (f k)) = true) {k i : Nat} {v : α} (hk : k < 18) (hl : (t.getD k []).lookup i = some v) : f k (i, v) = true :=
  List.all_eq_true.mp (List.all_eq_true.mp h k (List.mem_range.mpr hk)) _ (lookup_mem hl)
