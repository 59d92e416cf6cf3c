section
variable {xs : Nat → Int32} {d : Nat} {ls st : List AV} {h : AH} {Q : OU_ → AH → Prop} {a0 a1 a2 a3 a4 a5 a6 a7 a8 a9 a10 a11 a12 a13 a14 a15 : AV}
-- 179: J6_numberOfLeadingZeros_0f7a4
theorem s179_0 {x : Int32} : V_ xs d 179 0 [vI x, a1] st h Q ↔ V_ xs d 179 1 [vI x, a1] (vI x :: st) h Q := V_load (show decode (cod_ 179) 0 = .ok (.iload_n 0, 1) by decide +kernel) rfl rfl rfl rfl
theorem s179_1 {x : Int32} : V_ xs d 179 1 ls (vI x :: st) h Q ↔ (if 0 < x then V_ xs d 179 15 ls st h Q else V_ xs d 179 4 ls st h Q) := V_ifgt (show decode (cod_ 179) 1 = .ok (.ifCond .gt 14, 3) by decide +kernel) (by decide)
theorem s179_4 {x : Int32} : V_ xs d 179 4 [vI x, a1] st h Q ↔ V_ xs d 179 5 [vI x, a1] (vI x :: st) h Q := V_load (show decode (cod_ 179) 4 = .ok (.iload_n 0, 1) by decide +kernel) rfl rfl rfl rfl
theorem s179_5 {x : Int32} : V_ xs d 179 5 ls (vI x :: st) h Q ↔ (if x = 0 then V_ xs d 179 8 ls st h Q else V_ xs d 179 13 ls st h Q) := V_ifne (show decode (cod_ 179) 5 = .ok (.ifCond .ne 8, 3) by decide +kernel) (by decide)
theorem s179_8 : V_ xs d 179 8 ls st h Q ↔ V_ xs d 179 10 ls (vI 32 :: st) h Q := V_const (show decode (cod_ 179) 8 = .ok (.bipush 32, 2) by decide +kernel) rfl rfl rfl
theorem s179_10 : V_ xs d 179 10 ls st h Q ↔ V_ xs d 179 14 ls st h Q := V_goto (show decode (cod_ 179) 10 = .ok (.goto 4, 3) by decide +kernel) (by decide)
theorem s179_13 : V_ xs d 179 13 ls st h Q ↔ V_ xs d 179 14 ls (vI 0 :: st) h Q := V_const (show decode (cod_ 179) 13 = .ok (.iconst 0, 1) by decide +kernel) rfl rfl rfl
theorem s179_14 {x : Int32} : V_ xs d 179 14 ls [vI x] h Q ↔ Q (some (some (vI x))) h := V_iret0 (show decode (cod_ 179) 14 = .ok (.ireturn, 1) by decide +kernel) rfl
theorem s179_15 : V_ xs d 179 15 ls st h Q ↔ V_ xs d 179 17 ls (vI 31 :: st) h Q := V_const (show decode (cod_ 179) 15 = .ok (.bipush 31, 2) by decide +kernel) rfl rfl rfl
theorem s179_17 {x : Int32} : V_ xs d 179 17 [a0, a1] (vI x :: st) h Q ↔ V_ xs d 179 18 [a0, vI x] st h Q := V_store (show decode (cod_ 179) 17 = .ok (.istore_n 1, 1) by decide +kernel) rfl rfl rfl rfl rfl rfl
theorem s179_18 {x : Int32} : V_ xs d 179 18 [vI x, a1] st h Q ↔ V_ xs d 179 19 [vI x, a1] (vI x :: st) h Q := V_load (show decode (cod_ 179) 18 = .ok (.iload_n 0, 1) by decide +kernel) rfl rfl rfl rfl
theorem s179_19 : V_ xs d 179 19 ls st h Q ↔ V_ xs d 179 22 ls (vI (65536) :: st) h Q := V_poolk (show decode (cod_ 179) 19 = .ok (.ldc_w 264, 3) by decide +kernel) rfl (Or.inr (Or.inl rfl)) rfl
theorem s179_22 {x y : Int32} : V_ xs d 179 22 ls (vI y :: vI x :: st) h Q ↔ (if x < y then V_ xs d 179 33 ls st h Q else V_ xs d 179 25 ls st h Q) := V_iclt (show decode (cod_ 179) 22 = .ok (.if_icmp .lt 11, 3) by decide +kernel) (by decide)
theorem s179_25 {x : Int32} : V_ xs d 179 25 [a0, vI x] st h Q ↔ V_ xs d 179 28 [a0, vI (x + (-16))] st h Q := V_store (show decode (cod_ 179) 25 = .ok (.iinc 1 (-16), 3) by decide +kernel) rfl rfl rfl rfl rfl rfl
theorem s179_28 {x : Int32} : V_ xs d 179 28 [vI x, a1] st h Q ↔ V_ xs d 179 29 [vI x, a1] (vI x :: st) h Q := V_load (show decode (cod_ 179) 28 = .ok (.iload_n 0, 1) by decide +kernel) rfl rfl rfl rfl
theorem s179_29 : V_ xs d 179 29 ls st h Q ↔ V_ xs d 179 31 ls (vI 16 :: st) h Q := V_const (show decode (cod_ 179) 29 = .ok (.bipush 16, 2) by decide +kernel) rfl rfl rfl
theorem s179_31 {x y : Int32} : V_ xs d 179 31 ls (vI y :: vI x :: st) h Q ↔ V_ xs d 179 32 ls (vI ((x.toUInt32 >>> (y.toUInt32 &&& Int32.toUInt32 31)).toInt32) :: st) h Q := V_arith (show decode (cod_ 179) 31 = .ok (.iushr, 1) by decide +kernel) rfl rfl rfl rfl rfl
theorem s179_32 {x : Int32} : V_ xs d 179 32 [a0, a1] (vI x :: st) h Q ↔ V_ xs d 179 33 [vI x, a1] st h Q := V_store (show decode (cod_ 179) 32 = .ok (.istore_n 0, 1) by decide +kernel) rfl rfl rfl rfl rfl rfl
theorem s179_33 {x : Int32} : V_ xs d 179 33 [vI x, a1] st h Q ↔ V_ xs d 179 34 [vI x, a1] (vI x :: st) h Q := V_load (show decode (cod_ 179) 33 = .ok (.iload_n 0, 1) by decide +kernel) rfl rfl rfl rfl
theorem s179_34 : V_ xs d 179 34 ls st h Q ↔ V_ xs d 179 37 ls (vI 256 :: st) h Q := V_const (show decode (cod_ 179) 34 = .ok (.sipush 256, 3) by decide +kernel) rfl rfl rfl
theorem s179_37 {x y : Int32} : V_ xs d 179 37 ls (vI y :: vI x :: st) h Q ↔ (if x < y then V_ xs d 179 48 ls st h Q else V_ xs d 179 40 ls st h Q) := V_iclt (show decode (cod_ 179) 37 = .ok (.if_icmp .lt 11, 3) by decide +kernel) (by decide)
theorem s179_40 {x : Int32} : V_ xs d 179 40 [a0, vI x] st h Q ↔ V_ xs d 179 43 [a0, vI (x + (-8))] st h Q := V_store (show decode (cod_ 179) 40 = .ok (.iinc 1 (-8), 3) by decide +kernel) rfl rfl rfl rfl rfl rfl
theorem s179_43 {x : Int32} : V_ xs d 179 43 [vI x, a1] st h Q ↔ V_ xs d 179 44 [vI x, a1] (vI x :: st) h Q := V_load (show decode (cod_ 179) 43 = .ok (.iload_n 0, 1) by decide +kernel) rfl rfl rfl rfl
theorem s179_44 : V_ xs d 179 44 ls st h Q ↔ V_ xs d 179 46 ls (vI 8 :: st) h Q := V_const (show decode (cod_ 179) 44 = .ok (.bipush 8, 2) by decide +kernel) rfl rfl rfl
theorem s179_46 {x y : Int32} : V_ xs d 179 46 ls (vI y :: vI x :: st) h Q ↔ V_ xs d 179 47 ls (vI ((x.toUInt32 >>> (y.toUInt32 &&& Int32.toUInt32 31)).toInt32) :: st) h Q := V_arith (show decode (cod_ 179) 46 = .ok (.iushr, 1) by decide +kernel) rfl rfl rfl rfl rfl
theorem s179_47 {x : Int32} : V_ xs d 179 47 [a0, a1] (vI x :: st) h Q ↔ V_ xs d 179 48 [vI x, a1] st h Q := V_store (show decode (cod_ 179) 47 = .ok (.istore_n 0, 1) by decide +kernel) rfl rfl rfl rfl rfl rfl
theorem s179_48 {x : Int32} : V_ xs d 179 48 [vI x, a1] st h Q ↔ V_ xs d 179 49 [vI x, a1] (vI x :: st) h Q := V_load (show decode (cod_ 179) 48 = .ok (.iload_n 0, 1) by decide +kernel) rfl rfl rfl rfl
theorem s179_49 : V_ xs d 179 49 ls st h Q ↔ V_ xs d 179 51 ls (vI 16 :: st) h Q := V_const (show decode (cod_ 179) 49 = .ok (.bipush 16, 2) by decide +kernel) rfl rfl rfl
theorem s179_51 {x y : Int32} : V_ xs d 179 51 ls (vI y :: vI x :: st) h Q ↔ (if x < y then V_ xs d 179 61 ls st h Q else V_ xs d 179 54 ls st h Q) := V_iclt (show decode (cod_ 179) 51 = .ok (.if_icmp .lt 10, 3) by decide +kernel) (by decide)
theorem s179_54 {x : Int32} : V_ xs d 179 54 [a0, vI x] st h Q ↔ V_ xs d 179 57 [a0, vI (x + (-4))] st h Q := V_store (show decode (cod_ 179) 54 = .ok (.iinc 1 (-4), 3) by decide +kernel) rfl rfl rfl rfl rfl rfl
theorem s179_57 {x : Int32} : V_ xs d 179 57 [vI x, a1] st h Q ↔ V_ xs d 179 58 [vI x, a1] (vI x :: st) h Q := V_load (show decode (cod_ 179) 57 = .ok (.iload_n 0, 1) by decide +kernel) rfl rfl rfl rfl
theorem s179_58 : V_ xs d 179 58 ls st h Q ↔ V_ xs d 179 59 ls (vI 4 :: st) h Q := V_const (show decode (cod_ 179) 58 = .ok (.iconst 4, 1) by decide +kernel) rfl rfl rfl
theorem s179_59 {x y : Int32} : V_ xs d 179 59 ls (vI y :: vI x :: st) h Q ↔ V_ xs d 179 60 ls (vI ((x.toUInt32 >>> (y.toUInt32 &&& Int32.toUInt32 31)).toInt32) :: st) h Q := V_arith (show decode (cod_ 179) 59 = .ok (.iushr, 1) by decide +kernel) rfl rfl rfl rfl rfl
theorem s179_60 {x : Int32} : V_ xs d 179 60 [a0, a1] (vI x :: st) h Q ↔ V_ xs d 179 61 [vI x, a1] st h Q := V_store (show decode (cod_ 179) 60 = .ok (.istore_n 0, 1) by decide +kernel) rfl rfl rfl rfl rfl rfl
theorem s179_61 {x : Int32} : V_ xs d 179 61 [vI x, a1] st h Q ↔ V_ xs d 179 62 [vI x, a1] (vI x :: st) h Q := V_load (show decode (cod_ 179) 61 = .ok (.iload_n 0, 1) by decide +kernel) rfl rfl rfl rfl
theorem s179_62 : V_ xs d 179 62 ls st h Q ↔ V_ xs d 179 63 ls (vI 4 :: st) h Q := V_const (show decode (cod_ 179) 62 = .ok (.iconst 4, 1) by decide +kernel) rfl rfl rfl
theorem s179_63 {x y : Int32} : V_ xs d 179 63 ls (vI y :: vI x :: st) h Q ↔ (if x < y then V_ xs d 179 73 ls st h Q else V_ xs d 179 66 ls st h Q) := V_iclt (show decode (cod_ 179) 63 = .ok (.if_icmp .lt 10, 3) by decide +kernel) (by decide)
theorem s179_66 {x : Int32} : V_ xs d 179 66 [a0, vI x] st h Q ↔ V_ xs d 179 69 [a0, vI (x + (-2))] st h Q := V_store (show decode (cod_ 179) 66 = .ok (.iinc 1 (-2), 3) by decide +kernel) rfl rfl rfl rfl rfl rfl
theorem s179_69 {x : Int32} : V_ xs d 179 69 [vI x, a1] st h Q ↔ V_ xs d 179 70 [vI x, a1] (vI x :: st) h Q := V_load (show decode (cod_ 179) 69 = .ok (.iload_n 0, 1) by decide +kernel) rfl rfl rfl rfl
theorem s179_70 : V_ xs d 179 70 ls st h Q ↔ V_ xs d 179 71 ls (vI 2 :: st) h Q := V_const (show decode (cod_ 179) 70 = .ok (.iconst 2, 1) by decide +kernel) rfl rfl rfl
theorem s179_71 {x y : Int32} : V_ xs d 179 71 ls (vI y :: vI x :: st) h Q ↔ V_ xs d 179 72 ls (vI ((x.toUInt32 >>> (y.toUInt32 &&& Int32.toUInt32 31)).toInt32) :: st) h Q := V_arith (show decode (cod_ 179) 71 = .ok (.iushr, 1) by decide +kernel) rfl rfl rfl rfl rfl
theorem s179_72 {x : Int32} : V_ xs d 179 72 [a0, a1] (vI x :: st) h Q ↔ V_ xs d 179 73 [vI x, a1] st h Q := V_store (show decode (cod_ 179) 72 = .ok (.istore_n 0, 1) by decide +kernel) rfl rfl rfl rfl rfl rfl
theorem s179_73 {x : Int32} : V_ xs d 179 73 [a0, vI x] st h Q ↔ V_ xs d 179 74 [a0, vI x] (vI x :: st) h Q := V_load (show decode (cod_ 179) 73 = .ok (.iload_n 1, 1) by decide +kernel) rfl rfl rfl rfl
theorem s179_74 {x : Int32} : V_ xs d 179 74 [vI x, a1] st h Q ↔ V_ xs d 179 75 [vI x, a1] (vI x :: st) h Q := V_load (show decode (cod_ 179) 74 = .ok (.iload_n 0, 1) by decide +kernel) rfl rfl rfl rfl
theorem s179_75 : V_ xs d 179 75 ls st h Q ↔ V_ xs d 179 76 ls (vI 1 :: st) h Q := V_const (show decode (cod_ 179) 75 = .ok (.iconst 1, 1) by decide +kernel) rfl rfl rfl
theorem s179_76 {x y : Int32} : V_ xs d 179 76 ls (vI y :: vI x :: st) h Q ↔ V_ xs d 179 77 ls (vI ((x.toUInt32 >>> (y.toUInt32 &&& Int32.toUInt32 31)).toInt32) :: st) h Q := V_arith (show decode (cod_ 179) 76 = .ok (.iushr, 1) by decide +kernel) rfl rfl rfl rfl rfl
theorem s179_77 {x y : Int32} : V_ xs d 179 77 ls (vI y :: vI x :: st) h Q ↔ V_ xs d 179 78 ls (vI (x - y) :: st) h Q := V_arith (show decode (cod_ 179) 77 = .ok (.isub, 1) by decide +kernel) rfl rfl rfl rfl rfl
theorem s179_78 {x : Int32} : V_ xs d 179 78 ls [vI x] h Q ↔ Q (some (some (vI x))) h := V_iret0 (show decode (cod_ 179) 78 = .ok (.ireturn, 1) by decide +kernel) rfl
-- 180: J6_numberOfTrailingZeros_0f7a4
theorem s180_0 {x : Int32} : V_ xs d 180 0 [vI x, a1] st h Q ↔ V_ xs d 180 1 [vI x, a1] (vI x :: st) h Q := V_load (show decode (cod_ 180) 0 = .ok (.iload_n 0, 1) by decide +kernel) rfl rfl rfl rfl
theorem s180_1 : V_ xs d 180 1 ls st h Q ↔ V_ xs d 180 2 ls (vI (-1) :: st) h Q := V_const (show decode (cod_ 180) 1 = .ok (.iconst (-1), 1) by decide +kernel) rfl rfl rfl
theorem s180_2 {x y : Int32} : V_ xs d 180 2 ls (vI y :: vI x :: st) h Q ↔ V_ xs d 180 3 ls (vI (x ^^^ y) :: st) h Q := V_arith (show decode (cod_ 180) 2 = .ok (.ixor, 1) by decide +kernel) rfl rfl rfl rfl rfl
theorem s180_3 {x : Int32} : V_ xs d 180 3 [vI x, a1] st h Q ↔ V_ xs d 180 4 [vI x, a1] (vI x :: st) h Q := V_load (show decode (cod_ 180) 3 = .ok (.iload_n 0, 1) by decide +kernel) rfl rfl rfl rfl
theorem s180_4 : V_ xs d 180 4 ls st h Q ↔ V_ xs d 180 5 ls (vI 1 :: st) h Q := V_const (show decode (cod_ 180) 4 = .ok (.iconst 1, 1) by decide +kernel) rfl rfl rfl
theorem s180_5 {x y : Int32} : V_ xs d 180 5 ls (vI y :: vI x :: st) h Q ↔ V_ xs d 180 6 ls (vI (x - y) :: st) h Q := V_arith (show decode (cod_ 180) 5 = .ok (.isub, 1) by decide +kernel) rfl rfl rfl rfl rfl
theorem s180_6 {x y : Int32} : V_ xs d 180 6 ls (vI y :: vI x :: st) h Q ↔ V_ xs d 180 7 ls (vI (x &&& y) :: st) h Q := V_arith (show decode (cod_ 180) 6 = .ok (.iand, 1) by decide +kernel) rfl rfl rfl rfl rfl
theorem s180_7 {x : Int32} : V_ xs d 180 7 [a0, a1] (vI x :: st) h Q ↔ V_ xs d 180 8 [vI x, a1] st h Q := V_store (show decode (cod_ 180) 7 = .ok (.istore_n 0, 1) by decide +kernel) rfl rfl rfl rfl rfl rfl
theorem s180_8 {x : Int32} : V_ xs d 180 8 [vI x, a1] st h Q ↔ V_ xs d 180 9 [vI x, a1] (vI x :: st) h Q := V_load (show decode (cod_ 180) 8 = .ok (.iload_n 0, 1) by decide +kernel) rfl rfl rfl rfl
theorem s180_9 {x : Int32} : V_ xs d 180 9 ls (vI x :: st) h Q ↔ (if 0 < x then V_ xs d 180 17 ls st h Q else V_ xs d 180 12 ls st h Q) := V_ifgt (show decode (cod_ 180) 9 = .ok (.ifCond .gt 8, 3) by decide +kernel) (by decide)
theorem s180_12 {x : Int32} : V_ xs d 180 12 [vI x, a1] st h Q ↔ V_ xs d 180 13 [vI x, a1] (vI x :: st) h Q := V_load (show decode (cod_ 180) 12 = .ok (.iload_n 0, 1) by decide +kernel) rfl rfl rfl rfl
theorem s180_13 : V_ xs d 180 13 ls st h Q ↔ V_ xs d 180 15 ls (vI 32 :: st) h Q := V_const (show decode (cod_ 180) 13 = .ok (.bipush 32, 2) by decide +kernel) rfl rfl rfl
theorem s180_15 {x y : Int32} : V_ xs d 180 15 ls (vI y :: vI x :: st) h Q ↔ V_ xs d 180 16 ls (vI (x &&& y) :: st) h Q := V_arith (show decode (cod_ 180) 15 = .ok (.iand, 1) by decide +kernel) rfl rfl rfl rfl rfl
theorem s180_16 {x : Int32} : V_ xs d 180 16 ls [vI x] h Q ↔ Q (some (some (vI x))) h := V_iret0 (show decode (cod_ 180) 16 = .ok (.ireturn, 1) by decide +kernel) rfl
theorem s180_17 : V_ xs d 180 17 ls st h Q ↔ V_ xs d 180 18 ls (vI 1 :: st) h Q := V_const (show decode (cod_ 180) 17 = .ok (.iconst 1, 1) by decide +kernel) rfl rfl rfl
theorem s180_18 {x : Int32} : V_ xs d 180 18 [a0, a1] (vI x :: st) h Q ↔ V_ xs d 180 19 [a0, vI x] st h Q := V_store (show decode (cod_ 180) 18 = .ok (.istore_n 1, 1) by decide +kernel) rfl rfl rfl rfl rfl rfl
theorem s180_19 {x : Int32} : V_ xs d 180 19 [vI x, a1] st h Q ↔ V_ xs d 180 20 [vI x, a1] (vI x :: st) h Q := V_load (show decode (cod_ 180) 19 = .ok (.iload_n 0, 1) by decide +kernel) rfl rfl rfl rfl
theorem s180_20 : V_ xs d 180 20 ls st h Q ↔ V_ xs d 180 23 ls (vI (65536) :: st) h Q := V_poolk (show decode (cod_ 180) 20 = .ok (.ldc_w 264, 3) by decide +kernel) rfl (Or.inr (Or.inl rfl)) rfl
theorem s180_23 {x y : Int32} : V_ xs d 180 23 ls (vI y :: vI x :: st) h Q ↔ (if y < x then V_ xs d 180 26 ls st h Q else V_ xs d 180 34 ls st h Q) := V_icle (show decode (cod_ 180) 23 = .ok (.if_icmp .le 11, 3) by decide +kernel) (by decide)
theorem s180_26 {x : Int32} : V_ xs d 180 26 [a0, vI x] st h Q ↔ V_ xs d 180 29 [a0, vI (x + 16)] st h Q := V_store (show decode (cod_ 180) 26 = .ok (.iinc 1 16, 3) by decide +kernel) rfl rfl rfl rfl rfl rfl
theorem s180_29 {x : Int32} : V_ xs d 180 29 [vI x, a1] st h Q ↔ V_ xs d 180 30 [vI x, a1] (vI x :: st) h Q := V_load (show decode (cod_ 180) 29 = .ok (.iload_n 0, 1) by decide +kernel) rfl rfl rfl rfl
theorem s180_30 : V_ xs d 180 30 ls st h Q ↔ V_ xs d 180 32 ls (vI 16 :: st) h Q := V_const (show decode (cod_ 180) 30 = .ok (.bipush 16, 2) by decide +kernel) rfl rfl rfl
theorem s180_32 {x y : Int32} : V_ xs d 180 32 ls (vI y :: vI x :: st) h Q ↔ V_ xs d 180 33 ls (vI ((x.toUInt32 >>> (y.toUInt32 &&& Int32.toUInt32 31)).toInt32) :: st) h Q := V_arith (show decode (cod_ 180) 32 = .ok (.iushr, 1) by decide +kernel) rfl rfl rfl rfl rfl
theorem s180_33 {x : Int32} : V_ xs d 180 33 [a0, a1] (vI x :: st) h Q ↔ V_ xs d 180 34 [vI x, a1] st h Q := V_store (show decode (cod_ 180) 33 = .ok (.istore_n 0, 1) by decide +kernel) rfl rfl rfl rfl rfl rfl
theorem s180_34 {x : Int32} : V_ xs d 180 34 [vI x, a1] st h Q ↔ V_ xs d 180 35 [vI x, a1] (vI x :: st) h Q := V_load (show decode (cod_ 180) 34 = .ok (.iload_n 0, 1) by decide +kernel) rfl rfl rfl rfl
theorem s180_35 : V_ xs d 180 35 ls st h Q ↔ V_ xs d 180 38 ls (vI 256 :: st) h Q := V_const (show decode (cod_ 180) 35 = .ok (.sipush 256, 3) by decide +kernel) rfl rfl rfl
theorem s180_38 {x y : Int32} : V_ xs d 180 38 ls (vI y :: vI x :: st) h Q ↔ (if y < x then V_ xs d 180 41 ls st h Q else V_ xs d 180 49 ls st h Q) := V_icle (show decode (cod_ 180) 38 = .ok (.if_icmp .le 11, 3) by decide +kernel) (by decide)
theorem s180_41 {x : Int32} : V_ xs d 180 41 [a0, vI x] st h Q ↔ V_ xs d 180 44 [a0, vI (x + 8)] st h Q := V_store (show decode (cod_ 180) 41 = .ok (.iinc 1 8, 3) by decide +kernel) rfl rfl rfl rfl rfl rfl
theorem s180_44 {x : Int32} : V_ xs d 180 44 [vI x, a1] st h Q ↔ V_ xs d 180 45 [vI x, a1] (vI x :: st) h Q := V_load (show decode (cod_ 180) 44 = .ok (.iload_n 0, 1) by decide +kernel) rfl rfl rfl rfl
theorem s180_45 : V_ xs d 180 45 ls st h Q ↔ V_ xs d 180 47 ls (vI 8 :: st) h Q := V_const (show decode (cod_ 180) 45 = .ok (.bipush 8, 2) by decide +kernel) rfl rfl rfl
theorem s180_47 {x y : Int32} : V_ xs d 180 47 ls (vI y :: vI x :: st) h Q ↔ V_ xs d 180 48 ls (vI ((x.toUInt32 >>> (y.toUInt32 &&& Int32.toUInt32 31)).toInt32) :: st) h Q := V_arith (show decode (cod_ 180) 47 = .ok (.iushr, 1) by decide +kernel) rfl rfl rfl rfl rfl
theorem s180_48 {x : Int32} : V_ xs d 180 48 [a0, a1] (vI x :: st) h Q ↔ V_ xs d 180 49 [vI x, a1] st h Q := V_store (show decode (cod_ 180) 48 = .ok (.istore_n 0, 1) by decide +kernel) rfl rfl rfl rfl rfl rfl
theorem s180_49 {x : Int32} : V_ xs d 180 49 [vI x, a1] st h Q ↔ V_ xs d 180 50 [vI x, a1] (vI x :: st) h Q := V_load (show decode (cod_ 180) 49 = .ok (.iload_n 0, 1) by decide +kernel) rfl rfl rfl rfl
theorem s180_50 : V_ xs d 180 50 ls st h Q ↔ V_ xs d 180 52 ls (vI 16 :: st) h Q := V_const (show decode (cod_ 180) 50 = .ok (.bipush 16, 2) by decide +kernel) rfl rfl rfl
theorem s180_52 {x y : Int32} : V_ xs d 180 52 ls (vI y :: vI x :: st) h Q ↔ (if y < x then V_ xs d 180 55 ls st h Q else V_ xs d 180 62 ls st h Q) := V_icle (show decode (cod_ 180) 52 = .ok (.if_icmp .le 10, 3) by decide +kernel) (by decide)
theorem s180_55 {x : Int32} : V_ xs d 180 55 [a0, vI x] st h Q ↔ V_ xs d 180 58 [a0, vI (x + 4)] st h Q := V_store (show decode (cod_ 180) 55 = .ok (.iinc 1 4, 3) by decide +kernel) rfl rfl rfl rfl rfl rfl
theorem s180_58 {x : Int32} : V_ xs d 180 58 [vI x, a1] st h Q ↔ V_ xs d 180 59 [vI x, a1] (vI x :: st) h Q := V_load (show decode (cod_ 180) 58 = .ok (.iload_n 0, 1) by decide +kernel) rfl rfl rfl rfl
theorem s180_59 : V_ xs d 180 59 ls st h Q ↔ V_ xs d 180 60 ls (vI 4 :: st) h Q := V_const (show decode (cod_ 180) 59 = .ok (.iconst 4, 1) by decide +kernel) rfl rfl rfl
theorem s180_60 {x y : Int32} : V_ xs d 180 60 ls (vI y :: vI x :: st) h Q ↔ V_ xs d 180 61 ls (vI ((x.toUInt32 >>> (y.toUInt32 &&& Int32.toUInt32 31)).toInt32) :: st) h Q := V_arith (show decode (cod_ 180) 60 = .ok (.iushr, 1) by decide +kernel) rfl rfl rfl rfl rfl
theorem s180_61 {x : Int32} : V_ xs d 180 61 [a0, a1] (vI x :: st) h Q ↔ V_ xs d 180 62 [vI x, a1] st h Q := V_store (show decode (cod_ 180) 61 = .ok (.istore_n 0, 1) by decide +kernel) rfl rfl rfl rfl rfl rfl
theorem s180_62 {x : Int32} : V_ xs d 180 62 [vI x, a1] st h Q ↔ V_ xs d 180 63 [vI x, a1] (vI x :: st) h Q := V_load (show decode (cod_ 180) 62 = .ok (.iload_n 0, 1) by decide +kernel) rfl rfl rfl rfl
theorem s180_63 : V_ xs d 180 63 ls st h Q ↔ V_ xs d 180 64 ls (vI 4 :: st) h Q := V_const (show decode (cod_ 180) 63 = .ok (.iconst 4, 1) by decide +kernel) rfl rfl rfl
theorem s180_64 {x y : Int32} : V_ xs d 180 64 ls (vI y :: vI x :: st) h Q ↔ (if y < x then V_ xs d 180 67 ls st h Q else V_ xs d 180 74 ls st h Q) := V_icle (show decode (cod_ 180) 64 = .ok (.if_icmp .le 10, 3) by decide +kernel) (by decide)
theorem s180_67 {x : Int32} : V_ xs d 180 67 [a0, vI x] st h Q ↔ V_ xs d 180 70 [a0, vI (x + 2)] st h Q := V_store (show decode (cod_ 180) 67 = .ok (.iinc 1 2, 3) by decide +kernel) rfl rfl rfl rfl rfl rfl
theorem s180_70 {x : Int32} : V_ xs d 180 70 [vI x, a1] st h Q ↔ V_ xs d 180 71 [vI x, a1] (vI x :: st) h Q := V_load (show decode (cod_ 180) 70 = .ok (.iload_n 0, 1) by decide +kernel) rfl rfl rfl rfl
theorem s180_71 : V_ xs d 180 71 ls st h Q ↔ V_ xs d 180 72 ls (vI 2 :: st) h Q := V_const (show decode (cod_ 180) 71 = .ok (.iconst 2, 1) by decide +kernel) rfl rfl rfl
theorem s180_72 {x y : Int32} : V_ xs d 180 72 ls (vI y :: vI x :: st) h Q ↔ V_ xs d 180 73 ls (vI ((x.toUInt32 >>> (y.toUInt32 &&& Int32.toUInt32 31)).toInt32) :: st) h Q := V_arith (show decode (cod_ 180) 72 = .ok (.iushr, 1) by decide +kernel) rfl rfl rfl rfl rfl
theorem s180_73 {x : Int32} : V_ xs d 180 73 [a0, a1] (vI x :: st) h Q ↔ V_ xs d 180 74 [vI x, a1] st h Q := V_store (show decode (cod_ 180) 73 = .ok (.istore_n 0, 1) by decide +kernel) rfl rfl rfl rfl rfl rfl
theorem s180_74 {x : Int32} : V_ xs d 180 74 [a0, vI x] st h Q ↔ V_ xs d 180 75 [a0, vI x] (vI x :: st) h Q := V_load (show decode (cod_ 180) 74 = .ok (.iload_n 1, 1) by decide +kernel) rfl rfl rfl rfl
theorem s180_75 {x : Int32} : V_ xs d 180 75 [vI x, a1] st h Q ↔ V_ xs d 180 76 [vI x, a1] (vI x :: st) h Q := V_load (show decode (cod_ 180) 75 = .ok (.iload_n 0, 1) by decide +kernel) rfl rfl rfl rfl
theorem s180_76 : V_ xs d 180 76 ls st h Q ↔ V_ xs d 180 77 ls (vI 1 :: st) h Q := V_const (show decode (cod_ 180) 76 = .ok (.iconst 1, 1) by decide +kernel) rfl rfl rfl
theorem s180_77 {x y : Int32} : V_ xs d 180 77 ls (vI y :: vI x :: st) h Q ↔ V_ xs d 180 78 ls (vI ((x.toUInt32 >>> (y.toUInt32 &&& Int32.toUInt32 31)).toInt32) :: st) h Q := V_arith (show decode (cod_ 180) 77 = .ok (.iushr, 1) by decide +kernel) rfl rfl rfl rfl rfl
theorem s180_78 {x y : Int32} : V_ xs d 180 78 ls (vI y :: vI x :: st) h Q ↔ V_ xs d 180 79 ls (vI (x + y) :: st) h Q := V_arith (show decode (cod_ 180) 78 = .ok (.iadd, 1) by decide +kernel) rfl rfl rfl rfl rfl
theorem s180_79 {x : Int32} : V_ xs d 180 79 ls [vI x] h Q ↔ Q (some (some (vI x))) h := V_iret0 (show decode (cod_ 180) 79 = .ok (.ireturn, 1) by decide +kernel) rfl
-- 181: J6_bitCount_0f7a4
theorem s181_0 {x : Int32} : V_ xs d 181 0 [vI x] st h Q ↔ V_ xs d 181 1 [vI x] (vI x :: st) h Q := V_load (show decode (cod_ 181) 0 = .ok (.iload_n 0, 1) by decide +kernel) rfl rfl rfl rfl
theorem s181_1 {x : Int32} : V_ xs d 181 1 [vI x] st h Q ↔ V_ xs d 181 2 [vI x] (vI x :: st) h Q := V_load (show decode (cod_ 181) 1 = .ok (.iload_n 0, 1) by decide +kernel) rfl rfl rfl rfl
theorem s181_2 : V_ xs d 181 2 ls st h Q ↔ V_ xs d 181 3 ls (vI 1 :: st) h Q := V_const (show decode (cod_ 181) 2 = .ok (.iconst 1, 1) by decide +kernel) rfl rfl rfl
theorem s181_3 {x y : Int32} : V_ xs d 181 3 ls (vI y :: vI x :: st) h Q ↔ V_ xs d 181 4 ls (vI ((x.toUInt32 >>> (y.toUInt32 &&& Int32.toUInt32 31)).toInt32) :: st) h Q := V_arith (show decode (cod_ 181) 3 = .ok (.iushr, 1) by decide +kernel) rfl rfl rfl rfl rfl
theorem s181_4 : V_ xs d 181 4 ls st h Q ↔ V_ xs d 181 7 ls (vI (1431655765) :: st) h Q := V_poolk (show decode (cod_ 181) 4 = .ok (.ldc_w 265, 3) by decide +kernel) rfl (Or.inr (Or.inl rfl)) rfl
theorem s181_7 {x y : Int32} : V_ xs d 181 7 ls (vI y :: vI x :: st) h Q ↔ V_ xs d 181 8 ls (vI (x &&& y) :: st) h Q := V_arith (show decode (cod_ 181) 7 = .ok (.iand, 1) by decide +kernel) rfl rfl rfl rfl rfl
theorem s181_8 {x y : Int32} : V_ xs d 181 8 ls (vI y :: vI x :: st) h Q ↔ V_ xs d 181 9 ls (vI (x - y) :: st) h Q := V_arith (show decode (cod_ 181) 8 = .ok (.isub, 1) by decide +kernel) rfl rfl rfl rfl rfl
theorem s181_9 {x : Int32} : V_ xs d 181 9 [a0] (vI x :: st) h Q ↔ V_ xs d 181 10 [vI x] st h Q := V_store (show decode (cod_ 181) 9 = .ok (.istore_n 0, 1) by decide +kernel) rfl rfl rfl rfl rfl rfl
theorem s181_10 {x : Int32} : V_ xs d 181 10 [vI x] st h Q ↔ V_ xs d 181 11 [vI x] (vI x :: st) h Q := V_load (show decode (cod_ 181) 10 = .ok (.iload_n 0, 1) by decide +kernel) rfl rfl rfl rfl
theorem s181_11 : V_ xs d 181 11 ls st h Q ↔ V_ xs d 181 14 ls (vI (858993459) :: st) h Q := V_poolk (show decode (cod_ 181) 11 = .ok (.ldc_w 266, 3) by decide +kernel) rfl (Or.inr (Or.inl rfl)) rfl
theorem s181_14 {x y : Int32} : V_ xs d 181 14 ls (vI y :: vI x :: st) h Q ↔ V_ xs d 181 15 ls (vI (x &&& y) :: st) h Q := V_arith (show decode (cod_ 181) 14 = .ok (.iand, 1) by decide +kernel) rfl rfl rfl rfl rfl
theorem s181_15 {x : Int32} : V_ xs d 181 15 [vI x] st h Q ↔ V_ xs d 181 16 [vI x] (vI x :: st) h Q := V_load (show decode (cod_ 181) 15 = .ok (.iload_n 0, 1) by decide +kernel) rfl rfl rfl rfl
theorem s181_16 : V_ xs d 181 16 ls st h Q ↔ V_ xs d 181 17 ls (vI 2 :: st) h Q := V_const (show decode (cod_ 181) 16 = .ok (.iconst 2, 1) by decide +kernel) rfl rfl rfl
theorem s181_17 {x y : Int32} : V_ xs d 181 17 ls (vI y :: vI x :: st) h Q ↔ V_ xs d 181 18 ls (vI ((x.toUInt32 >>> (y.toUInt32 &&& Int32.toUInt32 31)).toInt32) :: st) h Q := V_arith (show decode (cod_ 181) 17 = .ok (.iushr, 1) by decide +kernel) rfl rfl rfl rfl rfl
theorem s181_18 : V_ xs d 181 18 ls st h Q ↔ V_ xs d 181 21 ls (vI (858993459) :: st) h Q := V_poolk (show decode (cod_ 181) 18 = .ok (.ldc_w 266, 3) by decide +kernel) rfl (Or.inr (Or.inl rfl)) rfl
theorem s181_21 {x y : Int32} : V_ xs d 181 21 ls (vI y :: vI x :: st) h Q ↔ V_ xs d 181 22 ls (vI (x &&& y) :: st) h Q := V_arith (show decode (cod_ 181) 21 = .ok (.iand, 1) by decide +kernel) rfl rfl rfl rfl rfl
theorem s181_22 {x y : Int32} : V_ xs d 181 22 ls (vI y :: vI x :: st) h Q ↔ V_ xs d 181 23 ls (vI (x + y) :: st) h Q := V_arith (show decode (cod_ 181) 22 = .ok (.iadd, 1) by decide +kernel) rfl rfl rfl rfl rfl
theorem s181_23 {x : Int32} : V_ xs d 181 23 [a0] (vI x :: st) h Q ↔ V_ xs d 181 24 [vI x] st h Q := V_store (show decode (cod_ 181) 23 = .ok (.istore_n 0, 1) by decide +kernel) rfl rfl rfl rfl rfl rfl
theorem s181_24 {x : Int32} : V_ xs d 181 24 [vI x] st h Q ↔ V_ xs d 181 25 [vI x] (vI x :: st) h Q := V_load (show decode (cod_ 181) 24 = .ok (.iload_n 0, 1) by decide +kernel) rfl rfl rfl rfl
theorem s181_25 {x : Int32} : V_ xs d 181 25 [vI x] st h Q ↔ V_ xs d 181 26 [vI x] (vI x :: st) h Q := V_load (show decode (cod_ 181) 25 = .ok (.iload_n 0, 1) by decide +kernel) rfl rfl rfl rfl
theorem s181_26 : V_ xs d 181 26 ls st h Q ↔ V_ xs d 181 27 ls (vI 4 :: st) h Q := V_const (show decode (cod_ 181) 26 = .ok (.iconst 4, 1) by decide +kernel) rfl rfl rfl
theorem s181_27 {x y : Int32} : V_ xs d 181 27 ls (vI y :: vI x :: st) h Q ↔ V_ xs d 181 28 ls (vI ((x.toUInt32 >>> (y.toUInt32 &&& Int32.toUInt32 31)).toInt32) :: st) h Q := V_arith (show decode (cod_ 181) 27 = .ok (.iushr, 1) by decide +kernel) rfl rfl rfl rfl rfl
theorem s181_28 {x y : Int32} : V_ xs d 181 28 ls (vI y :: vI x :: st) h Q ↔ V_ xs d 181 29 ls (vI (x + y) :: st) h Q := V_arith (show decode (cod_ 181) 28 = .ok (.iadd, 1) by decide +kernel) rfl rfl rfl rfl rfl
theorem s181_29 : V_ xs d 181 29 ls st h Q ↔ V_ xs d 181 32 ls (vI (252645135) :: st) h Q := V_poolk (show decode (cod_ 181) 29 = .ok (.ldc_w 267, 3) by decide +kernel) rfl (Or.inr (Or.inl rfl)) rfl
theorem s181_32 {x y : Int32} : V_ xs d 181 32 ls (vI y :: vI x :: st) h Q ↔ V_ xs d 181 33 ls (vI (x &&& y) :: st) h Q := V_arith (show decode (cod_ 181) 32 = .ok (.iand, 1) by decide +kernel) rfl rfl rfl rfl rfl
theorem s181_33 {x : Int32} : V_ xs d 181 33 [a0] (vI x :: st) h Q ↔ V_ xs d 181 34 [vI x] st h Q := V_store (show decode (cod_ 181) 33 = .ok (.istore_n 0, 1) by decide +kernel) rfl rfl rfl rfl rfl rfl
theorem s181_34 {x : Int32} : V_ xs d 181 34 [vI x] st h Q ↔ V_ xs d 181 35 [vI x] (vI x :: st) h Q := V_load (show decode (cod_ 181) 34 = .ok (.iload_n 0, 1) by decide +kernel) rfl rfl rfl rfl
theorem s181_35 {x : Int32} : V_ xs d 181 35 [vI x] st h Q ↔ V_ xs d 181 36 [vI x] (vI x :: st) h Q := V_load (show decode (cod_ 181) 35 = .ok (.iload_n 0, 1) by decide +kernel) rfl rfl rfl rfl
theorem s181_36 : V_ xs d 181 36 ls st h Q ↔ V_ xs d 181 38 ls (vI 8 :: st) h Q := V_const (show decode (cod_ 181) 36 = .ok (.bipush 8, 2) by decide +kernel) rfl rfl rfl
theorem s181_38 {x y : Int32} : V_ xs d 181 38 ls (vI y :: vI x :: st) h Q ↔ V_ xs d 181 39 ls (vI ((x.toUInt32 >>> (y.toUInt32 &&& Int32.toUInt32 31)).toInt32) :: st) h Q := V_arith (show decode (cod_ 181) 38 = .ok (.iushr, 1) by decide +kernel) rfl rfl rfl rfl rfl
theorem s181_39 {x y : Int32} : V_ xs d 181 39 ls (vI y :: vI x :: st) h Q ↔ V_ xs d 181 40 ls (vI (x + y) :: st) h Q := V_arith (show decode (cod_ 181) 39 = .ok (.iadd, 1) by decide +kernel) rfl rfl rfl rfl rfl
theorem s181_40 {x : Int32} : V_ xs d 181 40 [a0] (vI x :: st) h Q ↔ V_ xs d 181 41 [vI x] st h Q := V_store (show decode (cod_ 181) 40 = .ok (.istore_n 0, 1) by decide +kernel) rfl rfl rfl rfl rfl rfl
theorem s181_41 {x : Int32} : V_ xs d 181 41 [vI x] st h Q ↔ V_ xs d 181 42 [vI x] (vI x :: st) h Q := V_load (show decode (cod_ 181) 41 = .ok (.iload_n 0, 1) by decide +kernel) rfl rfl rfl rfl
theorem s181_42 {x : Int32} : V_ xs d 181 42 [vI x] st h Q ↔ V_ xs d 181 43 [vI x] (vI x :: st) h Q := V_load (show decode (cod_ 181) 42 = .ok (.iload_n 0, 1) by decide +kernel) rfl rfl rfl rfl
theorem s181_43 : V_ xs d 181 43 ls st h Q ↔ V_ xs d 181 45 ls (vI 16 :: st) h Q := V_const (show decode (cod_ 181) 43 = .ok (.bipush 16, 2) by decide +kernel) rfl rfl rfl
theorem s181_45 {x y : Int32} : V_ xs d 181 45 ls (vI y :: vI x :: st) h Q ↔ V_ xs d 181 46 ls (vI ((x.toUInt32 >>> (y.toUInt32 &&& Int32.toUInt32 31)).toInt32) :: st) h Q := V_arith (show decode (cod_ 181) 45 = .ok (.iushr, 1) by decide +kernel) rfl rfl rfl rfl rfl
theorem s181_46 {x y : Int32} : V_ xs d 181 46 ls (vI y :: vI x :: st) h Q ↔ V_ xs d 181 47 ls (vI (x + y) :: st) h Q := V_arith (show decode (cod_ 181) 46 = .ok (.iadd, 1) by decide +kernel) rfl rfl rfl rfl rfl
theorem s181_47 {x : Int32} : V_ xs d 181 47 [a0] (vI x :: st) h Q ↔ V_ xs d 181 48 [vI x] st h Q := V_store (show decode (cod_ 181) 47 = .ok (.istore_n 0, 1) by decide +kernel) rfl rfl rfl rfl rfl rfl
theorem s181_48 {x : Int32} : V_ xs d 181 48 [vI x] st h Q ↔ V_ xs d 181 49 [vI x] (vI x :: st) h Q := V_load (show decode (cod_ 181) 48 = .ok (.iload_n 0, 1) by decide +kernel) rfl rfl rfl rfl
theorem s181_49 : V_ xs d 181 49 ls st h Q ↔ V_ xs d 181 51 ls (vI 63 :: st) h Q := V_const (show decode (cod_ 181) 49 = .ok (.bipush 63, 2) by decide +kernel) rfl rfl rfl
theorem s181_51 {x y : Int32} : V_ xs d 181 51 ls (vI y :: vI x :: st) h Q ↔ V_ xs d 181 52 ls (vI (x &&& y) :: st) h Q := V_arith (show decode (cod_ 181) 51 = .ok (.iand, 1) by decide +kernel) rfl rfl rfl rfl rfl
theorem s181_52 {x : Int32} : V_ xs d 181 52 ls [vI x] h Q ↔ Q (some (some (vI x))) h := V_iret0 (show decode (cod_ 181) 52 = .ok (.ireturn, 1) by decide +kernel) rfl
-- 182: J9_floorDiv_f86c9
theorem s182_0 {x : Int64} : V_ xs d 182 0 [vJ x, a1, a2, a3, a4, a5] st h Q ↔ V_ xs d 182 1 [vJ x, a1, a2, a3, a4, a5] (vJ x :: st) h Q := V_load (show decode (cod_ 182) 0 = .ok (.lload_n 0, 1) by decide +kernel) rfl rfl rfl rfl
theorem s182_1 {x : Int64} : V_ xs d 182 1 [a0, a1, vJ x, a3, a4, a5] st h Q ↔ V_ xs d 182 2 [a0, a1, vJ x, a3, a4, a5] (vJ x :: st) h Q := V_load (show decode (cod_ 182) 1 = .ok (.lload_n 2, 1) by decide +kernel) rfl rfl rfl rfl
theorem s182_2 {x y : Int64} (hy : ¬ y = 0) : V_ xs d 182 2 ls (vJ y :: vJ x :: st) h Q ↔ V_ xs d 182 3 ls (vJ (x / y) :: st) h Q := V_ldiv (show decode (cod_ 182) 2 = .ok (.ldiv, 1) by decide +kernel) hy
theorem s182_3 {x : Int64} : V_ xs d 182 3 [a0, a1, a2, a3, a4, a5] (vJ x :: st) h Q ↔ V_ xs d 182 5 [a0, a1, a2, a3, vJ x, vX 0] st h Q := V_store (show decode (cod_ 182) 3 = .ok (.lstore 4, 2) by decide +kernel) rfl rfl rfl rfl rfl rfl
theorem s182_5 {x : Int64} : V_ xs d 182 5 [vJ x, a1, a2, a3, a4, a5] st h Q ↔ V_ xs d 182 6 [vJ x, a1, a2, a3, a4, a5] (vJ x :: st) h Q := V_load (show decode (cod_ 182) 5 = .ok (.lload_n 0, 1) by decide +kernel) rfl rfl rfl rfl
theorem s182_6 {x : Int64} : V_ xs d 182 6 [a0, a1, vJ x, a3, a4, a5] st h Q ↔ V_ xs d 182 7 [a0, a1, vJ x, a3, a4, a5] (vJ x :: st) h Q := V_load (show decode (cod_ 182) 6 = .ok (.lload_n 2, 1) by decide +kernel) rfl rfl rfl rfl
theorem s182_7 {x y : Int64} : V_ xs d 182 7 ls (vJ y :: vJ x :: st) h Q ↔ V_ xs d 182 8 ls (vJ (x ^^^ y) :: st) h Q := V_arith (show decode (cod_ 182) 7 = .ok (.lxor, 1) by decide +kernel) rfl rfl rfl rfl rfl
theorem s182_8 : V_ xs d 182 8 ls st h Q ↔ V_ xs d 182 9 ls (vJ 0 :: st) h Q := V_const (show decode (cod_ 182) 8 = .ok (.lconst 0, 1) by decide +kernel) rfl rfl rfl
theorem s182_9 {x y : Int64} : V_ xs d 182 9 ls (vJ y :: vJ x :: st) h Q ↔ V_ xs d 182 10 ls (vI (lg_cmp x y) :: st) h Q := V_arith (show decode (cod_ 182) 9 = .ok (.lcmp, 1) by decide +kernel) rfl rfl rfl rfl rfl
theorem s182_10 {x : Int32} : V_ xs d 182 10 ls (vI x :: st) h Q ↔ (if x < 0 then V_ xs d 182 13 ls st h Q else V_ xs d 182 27 ls st h Q) := V_ifge (show decode (cod_ 182) 10 = .ok (.ifCond .ge 17, 3) by decide +kernel) (by decide)
theorem s182_13 {x : Int64} : V_ xs d 182 13 [a0, a1, a2, a3, vJ x, a5] st h Q ↔ V_ xs d 182 15 [a0, a1, a2, a3, vJ x, a5] (vJ x :: st) h Q := V_load (show decode (cod_ 182) 13 = .ok (.lload 4, 2) by decide +kernel) rfl rfl rfl rfl
theorem s182_15 {x : Int64} : V_ xs d 182 15 [a0, a1, vJ x, a3, a4, a5] st h Q ↔ V_ xs d 182 16 [a0, a1, vJ x, a3, a4, a5] (vJ x :: st) h Q := V_load (show decode (cod_ 182) 15 = .ok (.lload_n 2, 1) by decide +kernel) rfl rfl rfl rfl
theorem s182_16 {x y : Int64} : V_ xs d 182 16 ls (vJ y :: vJ x :: st) h Q ↔ V_ xs d 182 17 ls (vJ (x * y) :: st) h Q := V_arith (show decode (cod_ 182) 16 = .ok (.lmul, 1) by decide +kernel) rfl rfl rfl rfl rfl
theorem s182_17 {x : Int64} : V_ xs d 182 17 [vJ x, a1, a2, a3, a4, a5] st h Q ↔ V_ xs d 182 18 [vJ x, a1, a2, a3, a4, a5] (vJ x :: st) h Q := V_load (show decode (cod_ 182) 17 = .ok (.lload_n 0, 1) by decide +kernel) rfl rfl rfl rfl
theorem s182_18 {x y : Int64} : V_ xs d 182 18 ls (vJ y :: vJ x :: st) h Q ↔ V_ xs d 182 19 ls (vI (lg_cmp x y) :: st) h Q := V_arith (show decode (cod_ 182) 18 = .ok (.lcmp, 1) by decide +kernel) rfl rfl rfl rfl rfl
theorem s182_19 {x : Int32} : V_ xs d 182 19 ls (vI x :: st) h Q ↔ (if x = 0 then V_ xs d 182 27 ls st h Q else V_ xs d 182 22 ls st h Q) := V_ifeq (show decode (cod_ 182) 19 = .ok (.ifCond .eq 8, 3) by decide +kernel) (by decide)
theorem s182_22 {x : Int64} : V_ xs d 182 22 [a0, a1, a2, a3, vJ x, a5] st h Q ↔ V_ xs d 182 24 [a0, a1, a2, a3, vJ x, a5] (vJ x :: st) h Q := V_load (show decode (cod_ 182) 22 = .ok (.lload 4, 2) by decide +kernel) rfl rfl rfl rfl
theorem s182_24 : V_ xs d 182 24 ls st h Q ↔ V_ xs d 182 25 ls (vJ 1 :: st) h Q := V_const (show decode (cod_ 182) 24 = .ok (.lconst 1, 1) by decide +kernel) rfl rfl rfl
theorem s182_25 {x y : Int64} : V_ xs d 182 25 ls (vJ y :: vJ x :: st) h Q ↔ V_ xs d 182 26 ls (vJ (x - y) :: st) h Q := V_arith (show decode (cod_ 182) 25 = .ok (.lsub, 1) by decide +kernel) rfl rfl rfl rfl rfl
theorem s182_26 {x : Int64} : V_ xs d 182 26 ls [vJ x] h Q ↔ Q (some (some (vJ x))) h := V_lret (show decode (cod_ 182) 26 = .ok (.lreturn, 1) by decide +kernel) rfl
theorem s182_27 {x : Int64} : V_ xs d 182 27 [a0, a1, a2, a3, vJ x, a5] st h Q ↔ V_ xs d 182 29 [a0, a1, a2, a3, vJ x, a5] (vJ x :: st) h Q := V_load (show decode (cod_ 182) 27 = .ok (.lload 4, 2) by decide +kernel) rfl rfl rfl rfl
theorem s182_29 {x : Int64} : V_ xs d 182 29 ls [vJ x] h Q ↔ Q (some (some (vJ x))) h := V_lret (show decode (cod_ 182) 29 = .ok (.lreturn, 1) by decide +kernel) rfl
-- 183: J9_abs_0f7a4
theorem s183_0 {x : Int32} : V_ xs d 183 0 [vI x] st h Q ↔ V_ xs d 183 1 [vI x] (vI x :: st) h Q := V_load (show decode (cod_ 183) 0 = .ok (.iload_n 0, 1) by decide +kernel) rfl rfl rfl rfl
theorem s183_1 {x : Int32} : V_ xs d 183 1 ls (vI x :: st) h Q ↔ (if x < 0 then V_ xs d 183 4 ls st h Q else V_ xs d 183 9 ls st h Q) := V_ifge (show decode (cod_ 183) 1 = .ok (.ifCond .ge 8, 3) by decide +kernel) (by decide)
theorem s183_4 {x : Int32} : V_ xs d 183 4 [vI x] st h Q ↔ V_ xs d 183 5 [vI x] (vI x :: st) h Q := V_load (show decode (cod_ 183) 4 = .ok (.iload_n 0, 1) by decide +kernel) rfl rfl rfl rfl
theorem s183_5 {x : Int32} : V_ xs d 183 5 ls (vI x :: st) h Q ↔ V_ xs d 183 6 ls (vI (-x) :: st) h Q := V_arith (show decode (cod_ 183) 5 = .ok (.ineg, 1) by decide +kernel) rfl rfl rfl rfl rfl
theorem s183_6 : V_ xs d 183 6 ls st h Q ↔ V_ xs d 183 10 ls st h Q := V_goto (show decode (cod_ 183) 6 = .ok (.goto 4, 3) by decide +kernel) (by decide)
theorem s183_9 {x : Int32} : V_ xs d 183 9 [vI x] st h Q ↔ V_ xs d 183 10 [vI x] (vI x :: st) h Q := V_load (show decode (cod_ 183) 9 = .ok (.iload_n 0, 1) by decide +kernel) rfl rfl rfl rfl
theorem s183_10 {x : Int32} : V_ xs d 183 10 ls [vI x] h Q ↔ Q (some (some (vI x))) h := V_iret0 (show decode (cod_ 183) 10 = .ok (.ireturn, 1) by decide +kernel) rfl
-- 184: J9_max_7cf53
theorem s184_0 {x : Int32} : V_ xs d 184 0 [vI x, a1] st h Q ↔ V_ xs d 184 1 [vI x, a1] (vI x :: st) h Q := V_load (show decode (cod_ 184) 0 = .ok (.iload_n 0, 1) by decide +kernel) rfl rfl rfl rfl
theorem s184_1 {x : Int32} : V_ xs d 184 1 [a0, vI x] st h Q ↔ V_ xs d 184 2 [a0, vI x] (vI x :: st) h Q := V_load (show decode (cod_ 184) 1 = .ok (.iload_n 1, 1) by decide +kernel) rfl rfl rfl rfl
theorem s184_2 {x y : Int32} : V_ xs d 184 2 ls (vI y :: vI x :: st) h Q ↔ (if x < y then V_ xs d 184 9 ls st h Q else V_ xs d 184 5 ls st h Q) := V_iclt (show decode (cod_ 184) 2 = .ok (.if_icmp .lt 7, 3) by decide +kernel) (by decide)
theorem s184_5 {x : Int32} : V_ xs d 184 5 [vI x, a1] st h Q ↔ V_ xs d 184 6 [vI x, a1] (vI x :: st) h Q := V_load (show decode (cod_ 184) 5 = .ok (.iload_n 0, 1) by decide +kernel) rfl rfl rfl rfl
theorem s184_6 : V_ xs d 184 6 ls st h Q ↔ V_ xs d 184 10 ls st h Q := V_goto (show decode (cod_ 184) 6 = .ok (.goto 4, 3) by decide +kernel) (by decide)
theorem s184_9 {x : Int32} : V_ xs d 184 9 [a0, vI x] st h Q ↔ V_ xs d 184 10 [a0, vI x] (vI x :: st) h Q := V_load (show decode (cod_ 184) 9 = .ok (.iload_n 1, 1) by decide +kernel) rfl rfl rfl rfl
theorem s184_10 {x : Int32} : V_ xs d 184 10 ls [vI x] h Q ↔ Q (some (some (vI x))) h := V_iret0 (show decode (cod_ 184) 10 = .ok (.ireturn, 1) by decide +kernel) rfl
-- 185: J9_max_f86c9
theorem s185_0 {x : Int64} : V_ xs d 185 0 [vJ x, a1, a2, a3] st h Q ↔ V_ xs d 185 1 [vJ x, a1, a2, a3] (vJ x :: st) h Q := V_load (show decode (cod_ 185) 0 = .ok (.lload_n 0, 1) by decide +kernel) rfl rfl rfl rfl
theorem s185_1 {x : Int64} : V_ xs d 185 1 [a0, a1, vJ x, a3] st h Q ↔ V_ xs d 185 2 [a0, a1, vJ x, a3] (vJ x :: st) h Q := V_load (show decode (cod_ 185) 1 = .ok (.lload_n 2, 1) by decide +kernel) rfl rfl rfl rfl
theorem s185_2 {x y : Int64} : V_ xs d 185 2 ls (vJ y :: vJ x :: st) h Q ↔ V_ xs d 185 3 ls (vI (lg_cmp x y) :: st) h Q := V_arith (show decode (cod_ 185) 2 = .ok (.lcmp, 1) by decide +kernel) rfl rfl rfl rfl rfl
theorem s185_3 {x : Int32} : V_ xs d 185 3 ls (vI x :: st) h Q ↔ (if x < 0 then V_ xs d 185 10 ls st h Q else V_ xs d 185 6 ls st h Q) := V_iflt (show decode (cod_ 185) 3 = .ok (.ifCond .lt 7, 3) by decide +kernel) (by decide)
theorem s185_6 {x : Int64} : V_ xs d 185 6 [vJ x, a1, a2, a3] st h Q ↔ V_ xs d 185 7 [vJ x, a1, a2, a3] (vJ x :: st) h Q := V_load (show decode (cod_ 185) 6 = .ok (.lload_n 0, 1) by decide +kernel) rfl rfl rfl rfl
theorem s185_7 : V_ xs d 185 7 ls st h Q ↔ V_ xs d 185 11 ls st h Q := V_goto (show decode (cod_ 185) 7 = .ok (.goto 4, 3) by decide +kernel) (by decide)
theorem s185_10 {x : Int64} : V_ xs d 185 10 [a0, a1, vJ x, a3] st h Q ↔ V_ xs d 185 11 [a0, a1, vJ x, a3] (vJ x :: st) h Q := V_load (show decode (cod_ 185) 10 = .ok (.lload_n 2, 1) by decide +kernel) rfl rfl rfl rfl
theorem s185_11 {x : Int64} : V_ xs d 185 11 ls [vJ x] h Q ↔ Q (some (some (vJ x))) h := V_lret (show decode (cod_ 185) 11 = .ok (.lreturn, 1) by decide +kernel) rfl
-- 186: J9_min_7cf53
theorem s186_0 {x : Int32} : V_ xs d 186 0 [vI x, a1] st h Q ↔ V_ xs d 186 1 [vI x, a1] (vI x :: st) h Q := V_load (show decode (cod_ 186) 0 = .ok (.iload_n 0, 1) by decide +kernel) rfl rfl rfl rfl
theorem s186_1 {x : Int32} : V_ xs d 186 1 [a0, vI x] st h Q ↔ V_ xs d 186 2 [a0, vI x] (vI x :: st) h Q := V_load (show decode (cod_ 186) 1 = .ok (.iload_n 1, 1) by decide +kernel) rfl rfl rfl rfl
theorem s186_2 {x y : Int32} : V_ xs d 186 2 ls (vI y :: vI x :: st) h Q ↔ (if y < x then V_ xs d 186 9 ls st h Q else V_ xs d 186 5 ls st h Q) := V_icgt (show decode (cod_ 186) 2 = .ok (.if_icmp .gt 7, 3) by decide +kernel) (by decide)
theorem s186_5 {x : Int32} : V_ xs d 186 5 [vI x, a1] st h Q ↔ V_ xs d 186 6 [vI x, a1] (vI x :: st) h Q := V_load (show decode (cod_ 186) 5 = .ok (.iload_n 0, 1) by decide +kernel) rfl rfl rfl rfl
theorem s186_6 : V_ xs d 186 6 ls st h Q ↔ V_ xs d 186 10 ls st h Q := V_goto (show decode (cod_ 186) 6 = .ok (.goto 4, 3) by decide +kernel) (by decide)
theorem s186_9 {x : Int32} : V_ xs d 186 9 [a0, vI x] st h Q ↔ V_ xs d 186 10 [a0, vI x] (vI x :: st) h Q := V_load (show decode (cod_ 186) 9 = .ok (.iload_n 1, 1) by decide +kernel) rfl rfl rfl rfl
theorem s186_10 {x : Int32} : V_ xs d 186 10 ls [vI x] h Q ↔ Q (some (some (vI x))) h := V_iret0 (show decode (cod_ 186) 10 = .ok (.ireturn, 1) by decide +kernel) rfl
-- 187: J0_length_8abf5
theorem s187_0 {x : Option Nat} : V_ xs d 187 0 [vA x] st h Q ↔ V_ xs d 187 1 [vA x] (vA x :: st) h Q := V_load (show decode (cod_ 187) 0 = .ok (.aload_n 0, 1) by decide +kernel) rfl rfl rfl rfl
theorem s187_1 {a : Nat} : V_ xs d 187 1 ls (vA (some a) :: st) h Q ↔ (kd_ a = 33 ∧ V_ xs d 187 4 ls (vA (cR_ a 0) :: st) h Q) := V_getCR (show decode (cod_ 187) 1 = .ok (.getfield 9, 3) by decide +kernel) rfl (by decide)
theorem s187_4 {a : Nat} (hk : 16 ≤ kd_ a ∧ kd_ a ≤ 22 ∨ 34 ≤ kd_ a ∧ kd_ a ≤ 36) : V_ xs d 187 4 ls (vA (some a) :: st) h Q ↔ V_ xs d 187 5 ls (vI (Int32.ofNat (ln_ a)) :: st) h Q := V_alen (show decode (cod_ 187) 4 = .ok (.arraylength, 1) by decide +kernel) hk
theorem s187_5 {x : Option Nat} : V_ xs d 187 5 [vA x] st h Q ↔ V_ xs d 187 6 [vA x] (vA x :: st) h Q := V_load (show decode (cod_ 187) 5 = .ok (.aload_n 0, 1) by decide +kernel) rfl rfl rfl rfl
theorem s187_6 {a : Nat} : V_ xs d 187 6 ls (vA (some a) :: st) h Q ↔ (0 < d ∧ (st.map acat_).sum ≤ 8 ∧ kd_ a = 33 ∧ V_ xs (d - 1) 189 0 [vA (some a)] [] h (K_ xs d 187 9 ls st Q)) := V_callV [] (show decode (cod_ 187) 6 = .ok (.invokevirtual 335, 3) by decide +kernel) rfl rfl rfl (by decide +kernel)
theorem s187_9 {x y : Int32} : V_ xs d 187 9 ls (vI y :: vI x :: st) h Q ↔ V_ xs d 187 10 ls (vI (x >>> (y &&& 31)) :: st) h Q := V_arith (show decode (cod_ 187) 9 = .ok (.ishr, 1) by decide +kernel) rfl rfl rfl rfl rfl
theorem s187_10 {x : Int32} : V_ xs d 187 10 ls [vI x] h Q ↔ Q (some (some (vI x))) h := V_iret0 (show decode (cod_ 187) 10 = .ok (.ireturn, 1) by decide +kernel) rfl
-- 188: J0_charAt_5068e
theorem s188_0 {x : Option Nat} : V_ xs d 188 0 [vA x, a1] st h Q ↔ V_ xs d 188 1 [vA x, a1] (vA x :: st) h Q := V_load (show decode (cod_ 188) 0 = .ok (.aload_n 0, 1) by decide +kernel) rfl rfl rfl rfl
theorem s188_1 {a : Nat} : V_ xs d 188 1 ls (vA (some a) :: st) h Q ↔ (0 < d ∧ (st.map acat_).sum ≤ 8 ∧ kd_ a = 33 ∧ V_ xs (d - 1) 190 0 [vA (some a)] [] h (K_ xs d 188 4 ls st Q)) := V_callV [] (show decode (cod_ 188) 1 = .ok (.invokevirtual 492, 3) by decide +kernel) rfl rfl rfl (by decide +kernel)
theorem s188_4 {x : Int32} : V_ xs d 188 4 ls (vI x :: st) h Q ↔ (if x = 0 then V_ xs d 188 16 ls st h Q else V_ xs d 188 7 ls st h Q) := V_ifeq (show decode (cod_ 188) 4 = .ok (.ifCond .eq 12, 3) by decide +kernel) (by decide)
theorem s188_7 {x : Option Nat} : V_ xs d 188 7 [vA x, a1] st h Q ↔ V_ xs d 188 8 [vA x, a1] (vA x :: st) h Q := V_load (show decode (cod_ 188) 7 = .ok (.aload_n 0, 1) by decide +kernel) rfl rfl rfl rfl
theorem s188_8 {a : Nat} : V_ xs d 188 8 ls (vA (some a) :: st) h Q ↔ (kd_ a = 33 ∧ V_ xs d 188 11 ls (vA (cR_ a 0) :: st) h Q) := V_getCR (show decode (cod_ 188) 8 = .ok (.getfield 9, 3) by decide +kernel) rfl (by decide)
theorem s188_11 {x : Int32} : V_ xs d 188 11 [a0, vI x] st h Q ↔ V_ xs d 188 12 [a0, vI x] (vI x :: st) h Q := V_load (show decode (cod_ 188) 11 = .ok (.iload_n 1, 1) by decide +kernel) rfl rfl rfl rfl
theorem s188_12 {b0 : Option Nat} {b1 : Int32} : V_ xs d 188 12 ls (vI b1 :: vA b0 :: st) h Q ↔ (0 < d ∧ (st.map acat_).sum ≤ 8 ∧ V_ xs (d - 1) 192 0 [vA b0, vI b1] [] h (K_ xs d 188 15 ls st Q)) := V_callS [vA b0, vI b1] (show decode (cod_ 188) 12 = .ok (.invokestatic 495, 3) by decide +kernel) rfl rfl rfl (by decide +kernel)
theorem s188_15 {x : Int32} : V_ xs d 188 15 ls [vI x] h Q ↔ (rb_ (some FieldType.char) x = true ∧ Q (some (some (vI x))) h) := V_iret (show decode (cod_ 188) 15 = .ok (.ireturn, 1) by decide +kernel)
theorem s188_16 {x : Option Nat} : V_ xs d 188 16 [vA x, a1] st h Q ↔ V_ xs d 188 17 [vA x, a1] (vA x :: st) h Q := V_load (show decode (cod_ 188) 16 = .ok (.aload_n 0, 1) by decide +kernel) rfl rfl rfl rfl
theorem s188_17 {a : Nat} : V_ xs d 188 17 ls (vA (some a) :: st) h Q ↔ (kd_ a = 33 ∧ V_ xs d 188 20 ls (vA (cR_ a 0) :: st) h Q) := V_getCR (show decode (cod_ 188) 17 = .ok (.getfield 9, 3) by decide +kernel) rfl (by decide)
theorem s188_20 {x : Int32} : V_ xs d 188 20 [a0, vI x] st h Q ↔ V_ xs d 188 21 [a0, vI x] (vI x :: st) h Q := V_load (show decode (cod_ 188) 20 = .ok (.iload_n 1, 1) by decide +kernel) rfl rfl rfl rfl
theorem s188_21 {b0 : Option Nat} {b1 : Int32} : V_ xs d 188 21 ls (vI b1 :: vA b0 :: st) h Q ↔ (0 < d ∧ (st.map acat_).sum ≤ 8 ∧ V_ xs (d - 1) 195 0 [vA b0, vI b1] [] h (K_ xs d 188 24 ls st Q)) := V_callS [vA b0, vI b1] (show decode (cod_ 188) 21 = .ok (.invokestatic 498, 3) by decide +kernel) rfl rfl rfl (by decide +kernel)
theorem s188_24 {x : Int32} : V_ xs d 188 24 ls [vI x] h Q ↔ (rb_ (some FieldType.char) x = true ∧ Q (some (some (vI x))) h) := V_iret (show decode (cod_ 188) 24 = .ok (.ireturn, 1) by decide +kernel)
-- 189: J0_coder_7d493
theorem s189_0 : V_ xs d 189 0 ls st h Q ↔ V_ xs d 189 3 ls (vI 1 :: st) h Q := V_poolk (show decode (cod_ 189) 0 = .ok (.getstatic 38, 3) by decide +kernel) rfl (Or.inr (Or.inr (Or.inr rfl))) rfl
theorem s189_3 {x : Int32} : V_ xs d 189 3 ls (vI x :: st) h Q ↔ (if x = 0 then V_ xs d 189 13 ls st h Q else V_ xs d 189 6 ls st h Q) := V_ifeq (show decode (cod_ 189) 3 = .ok (.ifCond .eq 10, 3) by decide +kernel) (by decide)
theorem s189_6 {x : Option Nat} : V_ xs d 189 6 [vA x] st h Q ↔ V_ xs d 189 7 [vA x] (vA x :: st) h Q := V_load (show decode (cod_ 189) 6 = .ok (.aload_n 0, 1) by decide +kernel) rfl rfl rfl rfl
theorem s189_7 {a : Nat} : V_ xs d 189 7 ls (vA (some a) :: st) h Q ↔ (kd_ a = 33 ∧ V_ xs d 189 10 ls (vI (cI_ a 1) :: st) h Q) := V_getCI (show decode (cod_ 189) 7 = .ok (.getfield 15, 3) by decide +kernel) rfl (by decide) (by decide)
theorem s189_10 : V_ xs d 189 10 ls st h Q ↔ V_ xs d 189 14 ls st h Q := V_goto (show decode (cod_ 189) 10 = .ok (.goto 4, 3) by decide +kernel) (by decide)
theorem s189_13 : V_ xs d 189 13 ls st h Q ↔ V_ xs d 189 14 ls (vI 1 :: st) h Q := V_const (show decode (cod_ 189) 13 = .ok (.iconst 1, 1) by decide +kernel) rfl rfl rfl
theorem s189_14 {x : Int32} : V_ xs d 189 14 ls [vI x] h Q ↔ (rb_ (some FieldType.byte) x = true ∧ Q (some (some (vI x))) h) := V_iret (show decode (cod_ 189) 14 = .ok (.ireturn, 1) by decide +kernel)
-- 190: J0_isLatin1_aae02
theorem s190_0 : V_ xs d 190 0 ls st h Q ↔ V_ xs d 190 3 ls (vI 1 :: st) h Q := V_poolk (show decode (cod_ 190) 0 = .ok (.getstatic 38, 3) by decide +kernel) rfl (Or.inr (Or.inr (Or.inr rfl))) rfl
theorem s190_3 {x : Int32} : V_ xs d 190 3 ls (vI x :: st) h Q ↔ (if x = 0 then V_ xs d 190 17 ls st h Q else V_ xs d 190 6 ls st h Q) := V_ifeq (show decode (cod_ 190) 3 = .ok (.ifCond .eq 14, 3) by decide +kernel) (by decide)
theorem s190_6 {x : Option Nat} : V_ xs d 190 6 [vA x] st h Q ↔ V_ xs d 190 7 [vA x] (vA x :: st) h Q := V_load (show decode (cod_ 190) 6 = .ok (.aload_n 0, 1) by decide +kernel) rfl rfl rfl rfl
theorem s190_7 {a : Nat} : V_ xs d 190 7 ls (vA (some a) :: st) h Q ↔ (kd_ a = 33 ∧ V_ xs d 190 10 ls (vI (cI_ a 1) :: st) h Q) := V_getCI (show decode (cod_ 190) 7 = .ok (.getfield 15, 3) by decide +kernel) rfl (by decide) (by decide)
theorem s190_10 {x : Int32} : V_ xs d 190 10 ls (vI x :: st) h Q ↔ (if x = 0 then V_ xs d 190 13 ls st h Q else V_ xs d 190 17 ls st h Q) := V_ifne (show decode (cod_ 190) 10 = .ok (.ifCond .ne 7, 3) by decide +kernel) (by decide)
theorem s190_13 : V_ xs d 190 13 ls st h Q ↔ V_ xs d 190 14 ls (vI 1 :: st) h Q := V_const (show decode (cod_ 190) 13 = .ok (.iconst 1, 1) by decide +kernel) rfl rfl rfl
theorem s190_14 : V_ xs d 190 14 ls st h Q ↔ V_ xs d 190 18 ls st h Q := V_goto (show decode (cod_ 190) 14 = .ok (.goto 4, 3) by decide +kernel) (by decide)
theorem s190_17 : V_ xs d 190 17 ls st h Q ↔ V_ xs d 190 18 ls (vI 0 :: st) h Q := V_const (show decode (cod_ 190) 17 = .ok (.iconst 0, 1) by decide +kernel) rfl rfl rfl
theorem s190_18 {x : Int32} : V_ xs d 190 18 ls [vI x] h Q ↔ ((x = 0 ∨ x = 1) ∧ Q (some (some (vI x))) h) := V_iretZ (show decode (cod_ 190) 18 = .ok (.ireturn, 1) by decide +kernel) rfl
-- 191: J0_checkIndex_df160
theorem s191_0 {x : Int32} : V_ xs d 191 0 [vI x, a1] st h Q ↔ V_ xs d 191 1 [vI x, a1] (vI x :: st) h Q := V_load (show decode (cod_ 191) 0 = .ok (.iload_n 0, 1) by decide +kernel) rfl rfl rfl rfl
theorem s191_1 {x : Int32} : V_ xs d 191 1 [a0, vI x] st h Q ↔ V_ xs d 191 2 [a0, vI x] (vI x :: st) h Q := V_load (show decode (cod_ 191) 1 = .ok (.iload_n 1, 1) by decide +kernel) rfl rfl rfl rfl
theorem s191_2 : V_ xs d 191 2 ls st h Q ↔ V_ xs d 191 5 ls (vX 1 :: st) h Q := V_poolk (show decode (cod_ 191) 2 = .ok (.getstatic 1053, 3) by decide +kernel) rfl (Or.inr (Or.inr (Or.inr rfl))) rfl
theorem s191_5 {b0 : Int32} {b1 : Int32} : V_ xs d 191 5 ls (vX 1 :: vI b1 :: vI b0 :: st) h Q ↔ (0 < d ∧ (st.map acat_).sum ≤ 8 ∧ V_ xs (d - 1) 199 0 [vI b0, vI b1, vX 1] [] h (K_ xs d 191 8 ls st Q)) := V_callS [vI b0, vI b1, vX 1] (show decode (cod_ 191) 5 = .ok (.invokestatic 1059, 3) by decide +kernel) rfl rfl rfl (by decide +kernel)
theorem s191_8 {x : Option Nat} : V_ xs d 191 8 ls (vA x :: st) h Q ↔ V_ xs d 191 9 ls st h Q := V_arith (show decode (cod_ 191) 8 = .ok (.pop, 1) by decide +kernel) rfl rfl rfl rfl rfl
theorem s191_8i {x : Int32} : V_ xs d 191 8 ls (vI x :: st) h Q ↔ V_ xs d 191 9 ls st h Q := V_arith (show decode (cod_ 191) 8 = .ok (.pop, 1) by decide +kernel) rfl rfl rfl rfl rfl
theorem s191_9 : V_ xs d 191 9 ls [] h Q ↔ Q (some none) h := V_vret (show decode (cod_ 191) 9 = .ok (.return_, 1) by decide +kernel) rfl
-- 192: J1_charAt_3b067
theorem s192_0 {x : Int32} : V_ xs d 192 0 [a0, vI x] st h Q ↔ V_ xs d 192 1 [a0, vI x] (vI x :: st) h Q := V_load (show decode (cod_ 192) 0 = .ok (.iload_n 1, 1) by decide +kernel) rfl rfl rfl rfl
theorem s192_1 {x : Option Nat} : V_ xs d 192 1 [vA x, a1] st h Q ↔ V_ xs d 192 2 [vA x, a1] (vA x :: st) h Q := V_load (show decode (cod_ 192) 1 = .ok (.aload_n 0, 1) by decide +kernel) rfl rfl rfl rfl
theorem s192_2 {a : Nat} (hk : 16 ≤ kd_ a ∧ kd_ a ≤ 22 ∨ 34 ≤ kd_ a ∧ kd_ a ≤ 36) : V_ xs d 192 2 ls (vA (some a) :: st) h Q ↔ V_ xs d 192 3 ls (vI (Int32.ofNat (ln_ a)) :: st) h Q := V_alen (show decode (cod_ 192) 2 = .ok (.arraylength, 1) by decide +kernel) hk
theorem s192_3 {b0 : Int32} {b1 : Int32} : V_ xs d 192 3 ls (vI b1 :: vI b0 :: st) h Q ↔ (0 < d ∧ (st.map acat_).sum ≤ 8 ∧ V_ xs (d - 1) 191 0 [vI b0, vI b1] [] h (K_ xs d 192 6 ls st Q)) := V_callS [vI b0, vI b1] (show decode (cod_ 192) 3 = .ok (.invokestatic 9, 3) by decide +kernel) rfl rfl rfl (by decide +kernel)
theorem s192_6 {x : Option Nat} : V_ xs d 192 6 [vA x, a1] st h Q ↔ V_ xs d 192 7 [vA x, a1] (vA x :: st) h Q := V_load (show decode (cod_ 192) 6 = .ok (.aload_n 0, 1) by decide +kernel) rfl rfl rfl rfl
theorem s192_7 {x : Int32} : V_ xs d 192 7 [a0, vI x] st h Q ↔ V_ xs d 192 8 [a0, vI x] (vI x :: st) h Q := V_load (show decode (cod_ 192) 7 = .ok (.iload_n 1, 1) by decide +kernel) rfl rfl rfl rfl
theorem s192_8 {a : Nat} {i : Int32} (hk : kd_ a = 34) : V_ xs d 192 8 ls (vI i :: vA (some a) :: st) h Q ↔ (ix_ i (ln_ a) ∧ V_ xs d 192 9 ls (vI (cI_ a i.toNatClampNeg) :: st) h Q) := V_baldC (show decode (cod_ 192) 8 = .ok (.baload, 1) by decide +kernel) hk
theorem s192_9 : V_ xs d 192 9 ls st h Q ↔ V_ xs d 192 12 ls (vI 255 :: st) h Q := V_const (show decode (cod_ 192) 9 = .ok (.sipush 255, 3) by decide +kernel) rfl rfl rfl
theorem s192_12 {x y : Int32} : V_ xs d 192 12 ls (vI y :: vI x :: st) h Q ↔ V_ xs d 192 13 ls (vI (x &&& y) :: st) h Q := V_arith (show decode (cod_ 192) 12 = .ok (.iand, 1) by decide +kernel) rfl rfl rfl rfl rfl
theorem s192_13 {x : Int32} : V_ xs d 192 13 ls (vI x :: st) h Q ↔ V_ xs d 192 14 ls (vI (x.toUInt32 % 65536).toInt32 :: st) h Q := V_arith (show decode (cod_ 192) 13 = .ok (.i2c, 1) by decide +kernel) rfl rfl rfl rfl rfl
theorem s192_14 {x : Int32} : V_ xs d 192 14 ls [vI x] h Q ↔ (rb_ (some FieldType.char) x = true ∧ Q (some (some (vI x))) h) := V_iret (show decode (cod_ 192) 14 = .ok (.ireturn, 1) by decide +kernel)
-- 197: J7_fill_d0a16
theorem s197_0 : V_ xs d 197 0 ls st h Q ↔ V_ xs d 197 1 ls (vI 0 :: st) h Q := V_const (show decode (cod_ 197) 0 = .ok (.iconst 0, 1) by decide +kernel) rfl rfl rfl
theorem s197_1 {x : Int32} : V_ xs d 197 1 [a0, a1, a2, a3, a4] (vI x :: st) h Q ↔ V_ xs d 197 2 [a0, a1, a2, vI x, a4] st h Q := V_store (show decode (cod_ 197) 1 = .ok (.istore_n 3, 1) by decide +kernel) rfl rfl rfl rfl rfl rfl
theorem s197_2 {x : Option Nat} : V_ xs d 197 2 [vA x, a1, a2, a3, a4] st h Q ↔ V_ xs d 197 3 [vA x, a1, a2, a3, a4] (vA x :: st) h Q := V_load (show decode (cod_ 197) 2 = .ok (.aload_n 0, 1) by decide +kernel) rfl rfl rfl rfl
theorem s197_3 {a : Nat} (hk : 16 ≤ kd_ a ∧ kd_ a ≤ 22 ∨ 34 ≤ kd_ a ∧ kd_ a ≤ 36) : V_ xs d 197 3 ls (vA (some a) :: st) h Q ↔ V_ xs d 197 4 ls (vI (Int32.ofNat (ln_ a)) :: st) h Q := V_alen (show decode (cod_ 197) 3 = .ok (.arraylength, 1) by decide +kernel) hk
theorem s197_4 {x : Int32} : V_ xs d 197 4 [a0, a1, a2, a3, a4] (vI x :: st) h Q ↔ V_ xs d 197 6 [a0, a1, a2, a3, vI x] st h Q := V_store (show decode (cod_ 197) 4 = .ok (.istore 4, 2) by decide +kernel) rfl rfl rfl rfl rfl rfl
theorem s197_6 {x : Int32} : V_ xs d 197 6 [a0, a1, a2, vI x, a4] st h Q ↔ V_ xs d 197 7 [a0, a1, a2, vI x, a4] (vI x :: st) h Q := V_load (show decode (cod_ 197) 6 = .ok (.iload_n 3, 1) by decide +kernel) rfl rfl rfl rfl
theorem s197_7 {x : Int32} : V_ xs d 197 7 [a0, a1, a2, a3, vI x] st h Q ↔ V_ xs d 197 9 [a0, a1, a2, a3, vI x] (vI x :: st) h Q := V_load (show decode (cod_ 197) 7 = .ok (.iload 4, 2) by decide +kernel) rfl rfl rfl rfl
theorem s197_9 {x y : Int32} : V_ xs d 197 9 ls (vI y :: vI x :: st) h Q ↔ (if x < y then V_ xs d 197 12 ls st h Q else V_ xs d 197 22 ls st h Q) := V_icge (show decode (cod_ 197) 9 = .ok (.if_icmp .ge 13, 3) by decide +kernel) (by decide)
theorem s197_12 {x : Option Nat} : V_ xs d 197 12 [vA x, a1, a2, a3, a4] st h Q ↔ V_ xs d 197 13 [vA x, a1, a2, a3, a4] (vA x :: st) h Q := V_load (show decode (cod_ 197) 12 = .ok (.aload_n 0, 1) by decide +kernel) rfl rfl rfl rfl
theorem s197_13 {x : Int32} : V_ xs d 197 13 [a0, a1, a2, vI x, a4] st h Q ↔ V_ xs d 197 14 [a0, a1, a2, vI x, a4] (vI x :: st) h Q := V_load (show decode (cod_ 197) 13 = .ok (.iload_n 3, 1) by decide +kernel) rfl rfl rfl rfl
theorem s197_14 {x : Int64} : V_ xs d 197 14 [a0, vJ x, a2, a3, a4] st h Q ↔ V_ xs d 197 15 [a0, vJ x, a2, a3, a4] (vJ x :: st) h Q := V_load (show decode (cod_ 197) 14 = .ok (.lload_n 1, 1) by decide +kernel) rfl rfl rfl rfl
theorem s197_15 {a : Nat} {i : Int32} {v : Int64} (hk : kd_ a = 19) : V_ xs d 197 15 ls (vJ v :: vI i :: vA (some a) :: st) h Q ↔ (ix_ i (ln_ a) ∧ V_ xs d 197 16 ls st (uL_ h a (st_ (hL_ h a) i.toNatClampNeg v)) Q) := V_last (show decode (cod_ 197) 15 = .ok (.lastore, 1) by decide +kernel) hk
theorem s197_16 {x : Int32} : V_ xs d 197 16 [a0, a1, a2, vI x, a4] st h Q ↔ V_ xs d 197 19 [a0, a1, a2, vI (x + 1), a4] st h Q := V_store (show decode (cod_ 197) 16 = .ok (.iinc 3 1, 3) by decide +kernel) rfl rfl rfl rfl rfl rfl
theorem s197_19 : V_ xs d 197 19 ls st h Q ↔ V_ xs d 197 6 ls st h Q := V_goto (show decode (cod_ 197) 19 = .ok (.goto (-13), 3) by decide +kernel) (by decide)
theorem s197_22 : V_ xs d 197 22 ls [] h Q ↔ Q (some none) h := V_vret (show decode (cod_ 197) 22 = .ok (.return_, 1) by decide +kernel) rfl
-- 198: J7_fill_53178
theorem s198_0 : V_ xs d 198 0 ls st h Q ↔ V_ xs d 198 1 ls (vI 0 :: st) h Q := V_const (show decode (cod_ 198) 0 = .ok (.iconst 0, 1) by decide +kernel) rfl rfl rfl
theorem s198_1 {x : Int32} : V_ xs d 198 1 [a0, a1, a2, a3] (vI x :: st) h Q ↔ V_ xs d 198 2 [a0, a1, vI x, a3] st h Q := V_store (show decode (cod_ 198) 1 = .ok (.istore_n 2, 1) by decide +kernel) rfl rfl rfl rfl rfl rfl
theorem s198_2 {x : Option Nat} : V_ xs d 198 2 [vA x, a1, a2, a3] st h Q ↔ V_ xs d 198 3 [vA x, a1, a2, a3] (vA x :: st) h Q := V_load (show decode (cod_ 198) 2 = .ok (.aload_n 0, 1) by decide +kernel) rfl rfl rfl rfl
theorem s198_3 {a : Nat} (hk : 16 ≤ kd_ a ∧ kd_ a ≤ 22 ∨ 34 ≤ kd_ a ∧ kd_ a ≤ 36) : V_ xs d 198 3 ls (vA (some a) :: st) h Q ↔ V_ xs d 198 4 ls (vI (Int32.ofNat (ln_ a)) :: st) h Q := V_alen (show decode (cod_ 198) 3 = .ok (.arraylength, 1) by decide +kernel) hk
theorem s198_4 {x : Int32} : V_ xs d 198 4 [a0, a1, a2, a3] (vI x :: st) h Q ↔ V_ xs d 198 5 [a0, a1, a2, vI x] st h Q := V_store (show decode (cod_ 198) 4 = .ok (.istore_n 3, 1) by decide +kernel) rfl rfl rfl rfl rfl rfl
theorem s198_5 {x : Int32} : V_ xs d 198 5 [a0, a1, vI x, a3] st h Q ↔ V_ xs d 198 6 [a0, a1, vI x, a3] (vI x :: st) h Q := V_load (show decode (cod_ 198) 5 = .ok (.iload_n 2, 1) by decide +kernel) rfl rfl rfl rfl
theorem s198_6 {x : Int32} : V_ xs d 198 6 [a0, a1, a2, vI x] st h Q ↔ V_ xs d 198 7 [a0, a1, a2, vI x] (vI x :: st) h Q := V_load (show decode (cod_ 198) 6 = .ok (.iload_n 3, 1) by decide +kernel) rfl rfl rfl rfl
theorem s198_7 {x y : Int32} : V_ xs d 198 7 ls (vI y :: vI x :: st) h Q ↔ (if x < y then V_ xs d 198 10 ls st h Q else V_ xs d 198 20 ls st h Q) := V_icge (show decode (cod_ 198) 7 = .ok (.if_icmp .ge 13, 3) by decide +kernel) (by decide)
theorem s198_10 {x : Option Nat} : V_ xs d 198 10 [vA x, a1, a2, a3] st h Q ↔ V_ xs d 198 11 [vA x, a1, a2, a3] (vA x :: st) h Q := V_load (show decode (cod_ 198) 10 = .ok (.aload_n 0, 1) by decide +kernel) rfl rfl rfl rfl
theorem s198_11 {x : Int32} : V_ xs d 198 11 [a0, a1, vI x, a3] st h Q ↔ V_ xs d 198 12 [a0, a1, vI x, a3] (vI x :: st) h Q := V_load (show decode (cod_ 198) 11 = .ok (.iload_n 2, 1) by decide +kernel) rfl rfl rfl rfl
theorem s198_12 {x : Int32} : V_ xs d 198 12 [a0, vI x, a2, a3] st h Q ↔ V_ xs d 198 13 [a0, vI x, a2, a3] (vI x :: st) h Q := V_load (show decode (cod_ 198) 12 = .ok (.iload_n 1, 1) by decide +kernel) rfl rfl rfl rfl
theorem s198_13 {a : Nat} {i v : Int32} (hk : kd_ a = 16) : V_ xs d 198 13 ls (vI v :: vI i :: vA (some a) :: st) h Q ↔ (ix_ i (ln_ a) ∧ V_ xs d 198 14 ls st (uI_ h a (st_ (hI_ h a) i.toNatClampNeg v)) Q) := V_iast (show decode (cod_ 198) 13 = .ok (.iastore, 1) by decide +kernel) hk
theorem s198_14 {x : Int32} : V_ xs d 198 14 [a0, a1, vI x, a3] st h Q ↔ V_ xs d 198 17 [a0, a1, vI (x + 1), a3] st h Q := V_store (show decode (cod_ 198) 14 = .ok (.iinc 2 1, 3) by decide +kernel) rfl rfl rfl rfl rfl rfl
theorem s198_17 : V_ xs d 198 17 ls st h Q ↔ V_ xs d 198 5 ls st h Q := V_goto (show decode (cod_ 198) 17 = .ok (.goto (-12), 3) by decide +kernel) (by decide)
theorem s198_20 : V_ xs d 198 20 ls [] h Q ↔ Q (some none) h := V_vret (show decode (cod_ 198) 20 = .ok (.return_, 1) by decide +kernel) rfl
-- 199: J3_checkIndex_8e157
theorem s199_0 {x : Int32} : V_ xs d 199 0 [vI x, a1, a2] st h Q ↔ V_ xs d 199 1 [vI x, a1, a2] (vI x :: st) h Q := V_load (show decode (cod_ 199) 0 = .ok (.iload_n 0, 1) by decide +kernel) rfl rfl rfl rfl
theorem s199_1 {x : Int32} : V_ xs d 199 1 ls (vI x :: st) h Q ↔ (if x < 0 then V_ xs d 199 9 ls st h Q else V_ xs d 199 4 ls st h Q) := V_iflt (show decode (cod_ 199) 1 = .ok (.ifCond .lt 8, 3) by decide +kernel) (by decide)
theorem s199_4 {x : Int32} : V_ xs d 199 4 [vI x, a1, a2] st h Q ↔ V_ xs d 199 5 [vI x, a1, a2] (vI x :: st) h Q := V_load (show decode (cod_ 199) 4 = .ok (.iload_n 0, 1) by decide +kernel) rfl rfl rfl rfl
theorem s199_5 {x : Int32} : V_ xs d 199 5 [a0, vI x, a2] st h Q ↔ V_ xs d 199 6 [a0, vI x, a2] (vI x :: st) h Q := V_load (show decode (cod_ 199) 5 = .ok (.iload_n 1, 1) by decide +kernel) rfl rfl rfl rfl
theorem s199_6 {x y : Int32} : V_ xs d 199 6 ls (vI y :: vI x :: st) h Q ↔ (if x < y then V_ xs d 199 16 ls st h Q else V_ xs d 199 9 ls st h Q) := V_iclt (show decode (cod_ 199) 6 = .ok (.if_icmp .lt 10, 3) by decide +kernel) (by decide)
theorem s199_9 {x : Option Nat} : V_ xs d 199 9 [a0, a1, vA x] st h Q ↔ V_ xs d 199 10 [a0, a1, vA x] (vA x :: st) h Q := V_load (show decode (cod_ 199) 9 = .ok (.aload_n 2, 1) by decide +kernel) rfl rfl rfl rfl
theorem s199_10 {x : Int32} : V_ xs d 199 10 [vI x, a1, a2] st h Q ↔ V_ xs d 199 11 [vI x, a1, a2] (vI x :: st) h Q := V_load (show decode (cod_ 199) 10 = .ok (.iload_n 0, 1) by decide +kernel) rfl rfl rfl rfl
theorem s199_11 {x : Int32} : V_ xs d 199 11 [a0, vI x, a2] st h Q ↔ V_ xs d 199 12 [a0, vI x, a2] (vI x :: st) h Q := V_load (show decode (cod_ 199) 11 = .ok (.iload_n 1, 1) by decide +kernel) rfl rfl rfl rfl
-- call of an unknown method at J3_checkIndex_8e157 12
theorem s199_16 {x : Int32} : V_ xs d 199 16 [vI x, a1, a2] st h Q ↔ V_ xs d 199 17 [vI x, a1, a2] (vI x :: st) h Q := V_load (show decode (cod_ 199) 16 = .ok (.iload_n 0, 1) by decide +kernel) rfl rfl rfl rfl
theorem s199_17 {x : Int32} : V_ xs d 199 17 ls [vI x] h Q ↔ Q (some (some (vI x))) h := V_iret0 (show decode (cod_ 199) 17 = .ok (.ireturn, 1) by decide +kernel) rfl
end
