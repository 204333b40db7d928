/- J6_bitCount_0f7a4 -/
section
variable {xs : Nat → Int32} {L : Nat} {ls st : List Value} {h : ZH} {v0 : Value} 
theorem q158_0 {x : Int32} : zev xs L 158 0 [.int x] st h = zev xs L 158 1 [.int x] (.int x :: st) h := zq_iln (by decide +kernel : decode (zco 158) 0 = .ok (.iload_n 0, 1)) rfl
theorem q158_1 {x : Int32} : zev xs L 158 1 [.int x] st h = zev xs L 158 2 [.int x] (.int x :: st) h := zq_iln (by decide +kernel : decode (zco 158) 1 = .ok (.iload_n 0, 1)) rfl
theorem q158_2 : zev xs L 158 2 ls st h = zev xs L 158 3 ls (.int (nI 1) :: st) h := zq_ic (by decide +kernel : decode (zco 158) 2 = .ok (.iconst 1, 1)) rfl
theorem q158_3 {x y : Int32} : zev xs L 158 3 ls (.int y :: .int x :: st) h = zev xs L 158 4 ls (.int ((x.toUInt32 >>> (y.toUInt32 &&& Int32.toUInt32 31)).toInt32) :: st) h := zq_iushr (by decide +kernel : decode (zco 158) 3 = .ok (.iushr, 1))
theorem q158_4 : zev xs L 158 4 ls st h = zev xs L 158 7 ls (.int (nI 1431655765) :: st) h := zq_kw (by decide +kernel : decode (zco 158) 4 = .ok (.ldc_w 265, 3)) (by decide +kernel)
theorem q158_7 {x y : Int32} : zev xs L 158 7 ls (.int y :: .int x :: st) h = zev xs L 158 8 ls (.int (x &&& y) :: st) h := zq_iand (by decide +kernel : decode (zco 158) 7 = .ok (.iand, 1))
theorem q158_8 {x y : Int32} : zev xs L 158 8 ls (.int y :: .int x :: st) h = zev xs L 158 9 ls (.int (x - y) :: st) h := zq_isub (by decide +kernel : decode (zco 158) 8 = .ok (.isub, 1))
theorem q158_9 {x : Int32} : zev xs L 158 9 [v0] (.int x :: st) h = zev xs L 158 10 [.int x] st h := zq_isn (by decide +kernel : decode (zco 158) 9 = .ok (.istore_n 0, 1)) (by decide +kernel) rfl
theorem q158_10 {x : Int32} : zev xs L 158 10 [.int x] st h = zev xs L 158 11 [.int x] (.int x :: st) h := zq_iln (by decide +kernel : decode (zco 158) 10 = .ok (.iload_n 0, 1)) rfl
theorem q158_11 : zev xs L 158 11 ls st h = zev xs L 158 14 ls (.int (nI 858993459) :: st) h := zq_kw (by decide +kernel : decode (zco 158) 11 = .ok (.ldc_w 266, 3)) (by decide +kernel)
theorem q158_14 {x y : Int32} : zev xs L 158 14 ls (.int y :: .int x :: st) h = zev xs L 158 15 ls (.int (x &&& y) :: st) h := zq_iand (by decide +kernel : decode (zco 158) 14 = .ok (.iand, 1))
theorem q158_15 {x : Int32} : zev xs L 158 15 [.int x] st h = zev xs L 158 16 [.int x] (.int x :: st) h := zq_iln (by decide +kernel : decode (zco 158) 15 = .ok (.iload_n 0, 1)) rfl
theorem q158_16 : zev xs L 158 16 ls st h = zev xs L 158 17 ls (.int (nI 2) :: st) h := zq_ic (by decide +kernel : decode (zco 158) 16 = .ok (.iconst 2, 1)) rfl
theorem q158_17 {x y : Int32} : zev xs L 158 17 ls (.int y :: .int x :: st) h = zev xs L 158 18 ls (.int ((x.toUInt32 >>> (y.toUInt32 &&& Int32.toUInt32 31)).toInt32) :: st) h := zq_iushr (by decide +kernel : decode (zco 158) 17 = .ok (.iushr, 1))
theorem q158_18 : zev xs L 158 18 ls st h = zev xs L 158 21 ls (.int (nI 858993459) :: st) h := zq_kw (by decide +kernel : decode (zco 158) 18 = .ok (.ldc_w 266, 3)) (by decide +kernel)
theorem q158_21 {x y : Int32} : zev xs L 158 21 ls (.int y :: .int x :: st) h = zev xs L 158 22 ls (.int (x &&& y) :: st) h := zq_iand (by decide +kernel : decode (zco 158) 21 = .ok (.iand, 1))
theorem q158_22 {x y : Int32} : zev xs L 158 22 ls (.int y :: .int x :: st) h = zev xs L 158 23 ls (.int (x + y) :: st) h := zq_iadd (by decide +kernel : decode (zco 158) 22 = .ok (.iadd, 1))
theorem q158_23 {x : Int32} : zev xs L 158 23 [v0] (.int x :: st) h = zev xs L 158 24 [.int x] st h := zq_isn (by decide +kernel : decode (zco 158) 23 = .ok (.istore_n 0, 1)) (by decide +kernel) rfl
theorem q158_24 {x : Int32} : zev xs L 158 24 [.int x] st h = zev xs L 158 25 [.int x] (.int x :: st) h := zq_iln (by decide +kernel : decode (zco 158) 24 = .ok (.iload_n 0, 1)) rfl
theorem q158_25 {x : Int32} : zev xs L 158 25 [.int x] st h = zev xs L 158 26 [.int x] (.int x :: st) h := zq_iln (by decide +kernel : decode (zco 158) 25 = .ok (.iload_n 0, 1)) rfl
theorem q158_26 : zev xs L 158 26 ls st h = zev xs L 158 27 ls (.int (nI 4) :: st) h := zq_ic (by decide +kernel : decode (zco 158) 26 = .ok (.iconst 4, 1)) rfl
theorem q158_27 {x y : Int32} : zev xs L 158 27 ls (.int y :: .int x :: st) h = zev xs L 158 28 ls (.int ((x.toUInt32 >>> (y.toUInt32 &&& Int32.toUInt32 31)).toInt32) :: st) h := zq_iushr (by decide +kernel : decode (zco 158) 27 = .ok (.iushr, 1))
theorem q158_28 {x y : Int32} : zev xs L 158 28 ls (.int y :: .int x :: st) h = zev xs L 158 29 ls (.int (x + y) :: st) h := zq_iadd (by decide +kernel : decode (zco 158) 28 = .ok (.iadd, 1))
theorem q158_29 : zev xs L 158 29 ls st h = zev xs L 158 32 ls (.int (nI 252645135) :: st) h := zq_kw (by decide +kernel : decode (zco 158) 29 = .ok (.ldc_w 267, 3)) (by decide +kernel)
theorem q158_32 {x y : Int32} : zev xs L 158 32 ls (.int y :: .int x :: st) h = zev xs L 158 33 ls (.int (x &&& y) :: st) h := zq_iand (by decide +kernel : decode (zco 158) 32 = .ok (.iand, 1))
theorem q158_33 {x : Int32} : zev xs L 158 33 [v0] (.int x :: st) h = zev xs L 158 34 [.int x] st h := zq_isn (by decide +kernel : decode (zco 158) 33 = .ok (.istore_n 0, 1)) (by decide +kernel) rfl
theorem q158_34 {x : Int32} : zev xs L 158 34 [.int x] st h = zev xs L 158 35 [.int x] (.int x :: st) h := zq_iln (by decide +kernel : decode (zco 158) 34 = .ok (.iload_n 0, 1)) rfl
theorem q158_35 {x : Int32} : zev xs L 158 35 [.int x] st h = zev xs L 158 36 [.int x] (.int x :: st) h := zq_iln (by decide +kernel : decode (zco 158) 35 = .ok (.iload_n 0, 1)) rfl
theorem q158_36 : zev xs L 158 36 ls st h = zev xs L 158 38 ls (.int (nI 8) :: st) h := zq_bi (by decide +kernel : decode (zco 158) 36 = .ok (.bipush 8, 2)) rfl
theorem q158_38 {x y : Int32} : zev xs L 158 38 ls (.int y :: .int x :: st) h = zev xs L 158 39 ls (.int ((x.toUInt32 >>> (y.toUInt32 &&& Int32.toUInt32 31)).toInt32) :: st) h := zq_iushr (by decide +kernel : decode (zco 158) 38 = .ok (.iushr, 1))
theorem q158_39 {x y : Int32} : zev xs L 158 39 ls (.int y :: .int x :: st) h = zev xs L 158 40 ls (.int (x + y) :: st) h := zq_iadd (by decide +kernel : decode (zco 158) 39 = .ok (.iadd, 1))
theorem q158_40 {x : Int32} : zev xs L 158 40 [v0] (.int x :: st) h = zev xs L 158 41 [.int x] st h := zq_isn (by decide +kernel : decode (zco 158) 40 = .ok (.istore_n 0, 1)) (by decide +kernel) rfl
theorem q158_41 {x : Int32} : zev xs L 158 41 [.int x] st h = zev xs L 158 42 [.int x] (.int x :: st) h := zq_iln (by decide +kernel : decode (zco 158) 41 = .ok (.iload_n 0, 1)) rfl
theorem q158_42 {x : Int32} : zev xs L 158 42 [.int x] st h = zev xs L 158 43 [.int x] (.int x :: st) h := zq_iln (by decide +kernel : decode (zco 158) 42 = .ok (.iload_n 0, 1)) rfl
theorem q158_43 : zev xs L 158 43 ls st h = zev xs L 158 45 ls (.int (nI 16) :: st) h := zq_bi (by decide +kernel : decode (zco 158) 43 = .ok (.bipush 16, 2)) rfl
theorem q158_45 {x y : Int32} : zev xs L 158 45 ls (.int y :: .int x :: st) h = zev xs L 158 46 ls (.int ((x.toUInt32 >>> (y.toUInt32 &&& Int32.toUInt32 31)).toInt32) :: st) h := zq_iushr (by decide +kernel : decode (zco 158) 45 = .ok (.iushr, 1))
theorem q158_46 {x y : Int32} : zev xs L 158 46 ls (.int y :: .int x :: st) h = zev xs L 158 47 ls (.int (x + y) :: st) h := zq_iadd (by decide +kernel : decode (zco 158) 46 = .ok (.iadd, 1))
theorem q158_47 {x : Int32} : zev xs L 158 47 [v0] (.int x :: st) h = zev xs L 158 48 [.int x] st h := zq_isn (by decide +kernel : decode (zco 158) 47 = .ok (.istore_n 0, 1)) (by decide +kernel) rfl
theorem q158_48 {x : Int32} : zev xs L 158 48 [.int x] st h = zev xs L 158 49 [.int x] (.int x :: st) h := zq_iln (by decide +kernel : decode (zco 158) 48 = .ok (.iload_n 0, 1)) rfl
theorem q158_49 : zev xs L 158 49 ls st h = zev xs L 158 51 ls (.int (nI 63) :: st) h := zq_bi (by decide +kernel : decode (zco 158) 49 = .ok (.bipush 63, 2)) rfl
theorem q158_51 {x y : Int32} : zev xs L 158 51 ls (.int y :: .int x :: st) h = zev xs L 158 52 ls (.int (x &&& y) :: st) h := zq_iand (by decide +kernel : decode (zco 158) 51 = .ok (.iand, 1))
theorem q158_52 {x : Int32} : zev xs L 158 52 ls [.int x] h = some (some (.int x), h) := zq_ri (by decide +kernel : decode (zco 158) 52 = .ok (.ireturn, 1)) (by decide +kernel)
end
