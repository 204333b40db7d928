/- X8_begins -/
section
variable {xs : Nat → Int32} {L : Nat} {ls st : List Value} {h : ZH} {v0 : Value} 
theorem q109_0 {x : Nat} : zev xs L 109 0 [.ref x] st h = zev xs L 109 1 [.ref x] (.ref x :: st) h := zq_aln (by decide +kernel : decode (zco 109) 0 = .ok (.aload_n 0, 1)) rfl
theorem q109_1 {a : Nat} : zev xs L 109 1 ls (.ref a :: st) h = (zget h a 8 3).bind (fun v => zev xs L 109 4 ls (v :: st) h) := zq_gf (by decide +kernel : decode (zco 109) 1 = .ok (.getfield 13, 3)) (by decide +kernel)
theorem q109_4 : zev xs L 109 4 ls st h = zev xs L 109 5 ls (.int (nI 2) :: st) h := zq_ic (by decide +kernel : decode (zco 109) 4 = .ok (.iconst 2, 1)) rfl
theorem q109_5 : zev xs L 109 5 ls st h = zev xs L 109 6 ls (.int (nI 0) :: st) h := zq_ic (by decide +kernel : decode (zco 109) 5 = .ok (.iconst 0, 1)) rfl
theorem q109_6 {x y : Int32} {a : Nat} : zev xs L 109 6 ls (.int y :: .int x :: .ref a :: st) h = (zast h 20 a x (.int y)).bind (fun h => zev xs L 109 7 ls st h) := zq_ias (by decide +kernel : decode (zco 109) 6 = .ok (.iastore, 1))
theorem q109_7 {x : Nat} : zev xs L 109 7 [.ref x] st h = zev xs L 109 8 [.ref x] (.ref x :: st) h := zq_aln (by decide +kernel : decode (zco 109) 7 = .ok (.aload_n 0, 1)) rfl
theorem q109_8 {a : Nat} : zev xs L 109 8 ls (.ref a :: st) h = (zget h a 8 3).bind (fun v => zev xs L 109 11 ls (v :: st) h) := zq_gf (by decide +kernel : decode (zco 109) 8 = .ok (.getfield 13, 3)) (by decide +kernel)
theorem q109_11 : zev xs L 109 11 ls st h = zev xs L 109 12 ls (.int (nI 3) :: st) h := zq_ic (by decide +kernel : decode (zco 109) 11 = .ok (.iconst 3, 1)) rfl
theorem q109_12 : zev xs L 109 12 ls st h = zev xs L 109 13 ls (.int (nI 0) :: st) h := zq_ic (by decide +kernel : decode (zco 109) 12 = .ok (.iconst 0, 1)) rfl
theorem q109_13 {x y : Int32} {a : Nat} : zev xs L 109 13 ls (.int y :: .int x :: .ref a :: st) h = (zast h 20 a x (.int y)).bind (fun h => zev xs L 109 14 ls st h) := zq_ias (by decide +kernel : decode (zco 109) 13 = .ok (.iastore, 1))
theorem q109_14 {x : Nat} : zev xs L 109 14 [.ref x] st h = zev xs L 109 15 [.ref x] (.ref x :: st) h := zq_aln (by decide +kernel : decode (zco 109) 14 = .ok (.aload_n 0, 1)) rfl
theorem q109_15 {a : Nat} : zev xs L 109 15 ls (.ref a :: st) h = (zget h a 8 4).bind (fun v => zev xs L 109 18 ls (v :: st) h) := zq_gf (by decide +kernel : decode (zco 109) 15 = .ok (.getfield 17, 3)) (by decide +kernel)
theorem q109_18 : zev xs L 109 18 ls st h = zev xs L 109 19 ls (.int (nI 1) :: st) h := zq_ic (by decide +kernel : decode (zco 109) 18 = .ok (.iconst 1, 1)) rfl
theorem q109_19 : zev xs L 109 19 ls st h = zev xs L 109 20 ls (.int (nI 0) :: st) h := zq_ic (by decide +kernel : decode (zco 109) 19 = .ok (.iconst 0, 1)) rfl
theorem q109_20 {x y : Int32} {a : Nat} : zev xs L 109 20 ls (.int y :: .int x :: .ref a :: st) h = (zast h 20 a x (.int y)).bind (fun h => zev xs L 109 21 ls st h) := zq_ias (by decide +kernel : decode (zco 109) 20 = .ok (.iastore, 1))
theorem q109_21 {x : Nat} : zev xs L 109 21 [.ref x] st h = zev xs L 109 22 [.ref x] (.ref x :: st) h := zq_aln (by decide +kernel : decode (zco 109) 21 = .ok (.aload_n 0, 1)) rfl
theorem q109_22 {a : Nat} : zev xs L 109 22 ls (.ref a :: st) h = (zget h a 8 6).bind (fun v => zev xs L 109 25 ls (v :: st) h) := zq_gf (by decide +kernel : decode (zco 109) 22 = .ok (.getfield 23, 3)) (by decide +kernel)
theorem q109_25 : zev xs L 109 25 ls st h = zev xs L 109 26 ls (.int (nI 1) :: st) h := zq_ic (by decide +kernel : decode (zco 109) 25 = .ok (.iconst 1, 1)) rfl
theorem q109_26 : zev xs L 109 26 ls st h = zev xs L 109 27 ls (.int (nI 0) :: st) h := zq_ic (by decide +kernel : decode (zco 109) 26 = .ok (.iconst 0, 1)) rfl
theorem q109_27 {x y : Int32} {a : Nat} : zev xs L 109 27 ls (.int y :: .int x :: .ref a :: st) h = (zast h 20 a x (.int y)).bind (fun h => zev xs L 109 28 ls st h) := zq_ias (by decide +kernel : decode (zco 109) 27 = .ok (.iastore, 1))
theorem q109_28 : zev xs L 109 28 ls [] h = some (none, h) := zq_rv (by decide +kernel : decode (zco 109) 28 = .ok (.return_, 1)) (by decide +kernel)
end
/- X8_masks -/
section
variable {xs : Nat → Int32} {L : Nat} {ls st : List Value} {h : ZH} {v0 v1 v2 : Value} 
theorem q110_0 : zev xs L 110 0 ls st h = zev xs L 110 1 ls (.int (nI 0) :: st) h := zq_ic (by decide +kernel : decode (zco 110) 0 = .ok (.iconst 0, 1)) rfl
theorem q110_1 {x : Int32} : zev xs L 110 1 [v0, v1, v2] (.int x :: st) h = zev xs L 110 2 [v0, .int x, v2] st h := zq_isn (by decide +kernel : decode (zco 110) 1 = .ok (.istore_n 1, 1)) (by decide +kernel) rfl
theorem q110_2 : zev xs L 110 2 ls st h = zev xs L 110 3 ls (.int (nI 0) :: st) h := zq_ic (by decide +kernel : decode (zco 110) 2 = .ok (.iconst 0, 1)) rfl
theorem q110_3 {x : Int32} : zev xs L 110 3 [v0, v1, v2] (.int x :: st) h = zev xs L 110 4 [v0, v1, .int x] st h := zq_isn (by decide +kernel : decode (zco 110) 3 = .ok (.istore_n 2, 1)) (by decide +kernel) rfl
theorem q110_4 {x : Int32} : zev xs L 110 4 [v0, v1, .int x] st h = zev xs L 110 5 [v0, v1, .int x] (.int x :: st) h := zq_iln (by decide +kernel : decode (zco 110) 4 = .ok (.iload_n 2, 1)) rfl
theorem q110_5 {x : Nat} : zev xs L 110 5 [.ref x, v1, v2] st h = zev xs L 110 6 [.ref x, v1, v2] (.ref x :: st) h := zq_aln (by decide +kernel : decode (zco 110) 5 = .ok (.aload_n 0, 1)) rfl
theorem q110_6 {a : Nat} : zev xs L 110 6 ls (.ref a :: st) h = (zget h a 8 4).bind (fun v => zev xs L 110 9 ls (v :: st) h) := zq_gf (by decide +kernel : decode (zco 110) 6 = .ok (.getfield 17, 3)) (by decide +kernel)
theorem q110_9 : zev xs L 110 9 ls st h = zev xs L 110 10 ls (.int (nI 1) :: st) h := zq_ic (by decide +kernel : decode (zco 110) 9 = .ok (.iconst 1, 1)) rfl
theorem q110_10 {x : Int32} {a : Nat} : zev xs L 110 10 ls (.int x :: .ref a :: st) h = (zaldI h 20 a x).bind (fun x => zev xs L 110 11 ls (.int x :: st) h) := zq_ia (by decide +kernel : decode (zco 110) 10 = .ok (.iaload, 1))
theorem q110_11 {x y : Int32} : zev xs L 110 11 ls (.int y :: .int x :: st) h = if x < y then zev xs L 110 14 ls st h else zev xs L 110 36 ls st h := (zq_ic2 (by decide +kernel : decode (zco 110) 11 = .ok (.if_icmp .ge 25, 3)) (by decide +kernel)).trans (zdge)
theorem q110_14 {x : Int32} : zev xs L 110 14 [v0, .int x, v2] st h = zev xs L 110 15 [v0, .int x, v2] (.int x :: st) h := zq_iln (by decide +kernel : decode (zco 110) 14 = .ok (.iload_n 1, 1)) rfl
theorem q110_15 {x : Nat} : zev xs L 110 15 [.ref x, v1, v2] st h = zev xs L 110 16 [.ref x, v1, v2] (.ref x :: st) h := zq_aln (by decide +kernel : decode (zco 110) 15 = .ok (.aload_n 0, 1)) rfl
theorem q110_16 {a : Nat} : zev xs L 110 16 ls (.ref a :: st) h = (zget h a 8 5).bind (fun v => zev xs L 110 19 ls (v :: st) h) := zq_gf (by decide +kernel : decode (zco 110) 16 = .ok (.getfield 20, 3)) (by decide +kernel)
theorem q110_19 : zev xs L 110 19 ls st h = zev xs L 110 21 ls (.int (nI 15) :: st) h := zq_bi (by decide +kernel : decode (zco 110) 19 = .ok (.bipush 15, 2)) rfl
theorem q110_21 : zev xs L 110 21 ls st h = zev xs L 110 22 ls (.int (nI 3) :: st) h := zq_ic (by decide +kernel : decode (zco 110) 21 = .ok (.iconst 3, 1)) rfl
theorem q110_22 {x : Int32} : zev xs L 110 22 [v0, v1, .int x] st h = zev xs L 110 23 [v0, v1, .int x] (.int x :: st) h := zq_iln (by decide +kernel : decode (zco 110) 22 = .ok (.iload_n 2, 1)) rfl
theorem q110_23 {x y : Int32} : zev xs L 110 23 ls (.int y :: .int x :: st) h = zev xs L 110 24 ls (.int (x * y) :: st) h := zq_imul (by decide +kernel : decode (zco 110) 23 = .ok (.imul, 1))
theorem q110_24 {x y : Int32} : zev xs L 110 24 ls (.int y :: .int x :: st) h = zev xs L 110 25 ls (.int (x + y) :: st) h := zq_iadd (by decide +kernel : decode (zco 110) 24 = .ok (.iadd, 1))
theorem q110_25 : zev xs L 110 25 ls st h = zev xs L 110 26 ls (.int (nI 2) :: st) h := zq_ic (by decide +kernel : decode (zco 110) 25 = .ok (.iconst 2, 1)) rfl
theorem q110_26 {x y : Int32} : zev xs L 110 26 ls (.int y :: .int x :: st) h = zev xs L 110 27 ls (.int (x + y) :: st) h := zq_iadd (by decide +kernel : decode (zco 110) 26 = .ok (.iadd, 1))
theorem q110_27 {x : Int32} {a : Nat} : zev xs L 110 27 ls (.int x :: .ref a :: st) h = (zaldI h 20 a x).bind (fun x => zev xs L 110 28 ls (.int x :: st) h) := zq_ia (by decide +kernel : decode (zco 110) 27 = .ok (.iaload, 1))
theorem q110_28 {x y : Int32} : zev xs L 110 28 ls (.int y :: .int x :: st) h = zev xs L 110 29 ls (.int (x + y) :: st) h := zq_iadd (by decide +kernel : decode (zco 110) 28 = .ok (.iadd, 1))
theorem q110_29 {x : Int32} : zev xs L 110 29 [v0, v1, v2] (.int x :: st) h = zev xs L 110 30 [v0, .int x, v2] st h := zq_isn (by decide +kernel : decode (zco 110) 29 = .ok (.istore_n 1, 1)) (by decide +kernel) rfl
theorem q110_30 {x : Int32} : zev xs L 110 30 [v0, v1, .int x] st h = zev xs L 110 33 [v0, v1, .int (x + nI 1)] st h := zq_inc (by decide +kernel : decode (zco 110) 30 = .ok (.iinc 2 1, 3)) rfl (by decide +kernel) (zn_1 x) rfl
theorem q110_33 : zev xs L 110 33 ls st h = zev xs L 110 4 ls st h := zq_go (by decide +kernel : decode (zco 110) 33 = .ok (.goto (-29), 3)) (by decide +kernel)
theorem q110_36 {x : Int32} : zev xs L 110 36 [v0, .int x, v2] st h = zev xs L 110 37 [v0, .int x, v2] (.int x :: st) h := zq_iln (by decide +kernel : decode (zco 110) 36 = .ok (.iload_n 1, 1)) rfl
theorem q110_37 {x : Int32} : zev xs L 110 37 ls [.int x] h = some (some (.int x), h) := zq_ri (by decide +kernel : decode (zco 110) 37 = .ok (.ireturn, 1)) (by decide +kernel)
end
/- X8_takes -/
section
variable {xs : Nat → Int32} {L : Nat} {ls st : List Value} {h : ZH} {v0 v1 v2 v3 : Value} 
theorem q111_0 {x : Nat} : zev xs L 111 0 [.ref x, v1, v2, v3] st h = zev xs L 111 1 [.ref x, v1, v2, v3] (.ref x :: st) h := zq_aln (by decide +kernel : decode (zco 111) 0 = .ok (.aload_n 0, 1)) rfl
theorem q111_1 {a : Nat} : zev xs L 111 1 ls (.ref a :: st) h = (zget h a 8 3).bind (fun v => zev xs L 111 4 ls (v :: st) h) := zq_gf (by decide +kernel : decode (zco 111) 1 = .ok (.getfield 13, 3)) (by decide +kernel)
theorem q111_4 : zev xs L 111 4 ls st h = zev xs L 111 5 ls (.int (nI 0) :: st) h := zq_ic (by decide +kernel : decode (zco 111) 4 = .ok (.iconst 0, 1)) rfl
theorem q111_5 {x : Nat} : zev xs L 111 5 [.ref x, v1, v2, v3] st h = zev xs L 111 6 [.ref x, v1, v2, v3] (.ref x :: st) h := zq_aln (by decide +kernel : decode (zco 111) 5 = .ok (.aload_n 0, 1)) rfl
theorem q111_6 {a : Nat} : zev xs L 111 6 ls (.ref a :: st) h = (zget h a 8 3).bind (fun v => zev xs L 111 9 ls (v :: st) h) := zq_gf (by decide +kernel : decode (zco 111) 6 = .ok (.getfield 13, 3)) (by decide +kernel)
theorem q111_9 : zev xs L 111 9 ls st h = zev xs L 111 10 ls (.int (nI 2) :: st) h := zq_ic (by decide +kernel : decode (zco 111) 9 = .ok (.iconst 2, 1)) rfl
theorem q111_10 {x : Int32} {a : Nat} : zev xs L 111 10 ls (.int x :: .ref a :: st) h = (zaldI h 20 a x).bind (fun x => zev xs L 111 11 ls (.int x :: st) h) := zq_ia (by decide +kernel : decode (zco 111) 10 = .ok (.iaload, 1))
theorem q111_11 {x y : Int32} {a : Nat} : zev xs L 111 11 ls (.int y :: .int x :: .ref a :: st) h = (zast h 20 a x (.int y)).bind (fun h => zev xs L 111 12 ls st h) := zq_ias (by decide +kernel : decode (zco 111) 11 = .ok (.iastore, 1))
theorem q111_12 {x : Nat} : zev xs L 111 12 [.ref x, v1, v2, v3] st h = zev xs L 111 13 [.ref x, v1, v2, v3] (.ref x :: st) h := zq_aln (by decide +kernel : decode (zco 111) 12 = .ok (.aload_n 0, 1)) rfl
theorem q111_13 {a : Nat} : zev xs L 111 13 ls (.ref a :: st) h = (zget h a 8 3).bind (fun v => zev xs L 111 16 ls (v :: st) h) := zq_gf (by decide +kernel : decode (zco 111) 13 = .ok (.getfield 13, 3)) (by decide +kernel)
theorem q111_16 : zev xs L 111 16 ls st h = zev xs L 111 17 ls (.int (nI 1) :: st) h := zq_ic (by decide +kernel : decode (zco 111) 16 = .ok (.iconst 1, 1)) rfl
theorem q111_17 {x : Nat} : zev xs L 111 17 [.ref x, v1, v2, v3] st h = zev xs L 111 18 [.ref x, v1, v2, v3] (.ref x :: st) h := zq_aln (by decide +kernel : decode (zco 111) 17 = .ok (.aload_n 0, 1)) rfl
theorem q111_18 {a : Nat} : zev xs L 111 18 ls (.ref a :: st) h = (zget h a 8 3).bind (fun v => zev xs L 111 21 ls (v :: st) h) := zq_gf (by decide +kernel : decode (zco 111) 18 = .ok (.getfield 13, 3)) (by decide +kernel)
theorem q111_21 : zev xs L 111 21 ls st h = zev xs L 111 22 ls (.int (nI 3) :: st) h := zq_ic (by decide +kernel : decode (zco 111) 21 = .ok (.iconst 3, 1)) rfl
theorem q111_22 {x : Int32} {a : Nat} : zev xs L 111 22 ls (.int x :: .ref a :: st) h = (zaldI h 20 a x).bind (fun x => zev xs L 111 23 ls (.int x :: st) h) := zq_ia (by decide +kernel : decode (zco 111) 22 = .ok (.iaload, 1))
theorem q111_23 {x y : Int32} {a : Nat} : zev xs L 111 23 ls (.int y :: .int x :: .ref a :: st) h = (zast h 20 a x (.int y)).bind (fun h => zev xs L 111 24 ls st h) := zq_ias (by decide +kernel : decode (zco 111) 23 = .ok (.iastore, 1))
theorem q111_24 {x : Nat} : zev xs L 111 24 [.ref x, v1, v2, v3] st h = zev xs L 111 25 [.ref x, v1, v2, v3] (.ref x :: st) h := zq_aln (by decide +kernel : decode (zco 111) 24 = .ok (.aload_n 0, 1)) rfl
theorem q111_25 {a : Nat} : zev xs L 111 25 ls (.ref a :: st) h = (zget h a 8 4).bind (fun v => zev xs L 111 28 ls (v :: st) h) := zq_gf (by decide +kernel : decode (zco 111) 25 = .ok (.getfield 17, 3)) (by decide +kernel)
theorem q111_28 : zev xs L 111 28 ls st h = zev xs L 111 29 ls (.int (nI 0) :: st) h := zq_ic (by decide +kernel : decode (zco 111) 28 = .ok (.iconst 0, 1)) rfl
theorem q111_29 {x : Nat} : zev xs L 111 29 [.ref x, v1, v2, v3] st h = zev xs L 111 30 [.ref x, v1, v2, v3] (.ref x :: st) h := zq_aln (by decide +kernel : decode (zco 111) 29 = .ok (.aload_n 0, 1)) rfl
theorem q111_30 {a : Nat} : zev xs L 111 30 ls (.ref a :: st) h = (zget h a 8 4).bind (fun v => zev xs L 111 33 ls (v :: st) h) := zq_gf (by decide +kernel : decode (zco 111) 30 = .ok (.getfield 17, 3)) (by decide +kernel)
theorem q111_33 : zev xs L 111 33 ls st h = zev xs L 111 34 ls (.int (nI 1) :: st) h := zq_ic (by decide +kernel : decode (zco 111) 33 = .ok (.iconst 1, 1)) rfl
theorem q111_34 {x : Int32} {a : Nat} : zev xs L 111 34 ls (.int x :: .ref a :: st) h = (zaldI h 20 a x).bind (fun x => zev xs L 111 35 ls (.int x :: st) h) := zq_ia (by decide +kernel : decode (zco 111) 34 = .ok (.iaload, 1))
theorem q111_35 {x y : Int32} {a : Nat} : zev xs L 111 35 ls (.int y :: .int x :: .ref a :: st) h = (zast h 20 a x (.int y)).bind (fun h => zev xs L 111 36 ls st h) := zq_ias (by decide +kernel : decode (zco 111) 35 = .ok (.iastore, 1))
theorem q111_36 {x : Nat} : zev xs L 111 36 [.ref x, v1, v2, v3] st h = zev xs L 111 37 [.ref x, v1, v2, v3] (.ref x :: st) h := zq_aln (by decide +kernel : decode (zco 111) 36 = .ok (.aload_n 0, 1)) rfl
theorem q111_37 {a : Nat} : zev xs L 111 37 ls (.ref a :: st) h = (zget h a 8 6).bind (fun v => zev xs L 111 40 ls (v :: st) h) := zq_gf (by decide +kernel : decode (zco 111) 37 = .ok (.getfield 23, 3)) (by decide +kernel)
theorem q111_40 : zev xs L 111 40 ls st h = zev xs L 111 41 ls (.int (nI 0) :: st) h := zq_ic (by decide +kernel : decode (zco 111) 40 = .ok (.iconst 0, 1)) rfl
theorem q111_41 {x : Nat} : zev xs L 111 41 [.ref x, v1, v2, v3] st h = zev xs L 111 42 [.ref x, v1, v2, v3] (.ref x :: st) h := zq_aln (by decide +kernel : decode (zco 111) 41 = .ok (.aload_n 0, 1)) rfl
theorem q111_42 {a : Nat} : zev xs L 111 42 ls (.ref a :: st) h = (zget h a 8 6).bind (fun v => zev xs L 111 45 ls (v :: st) h) := zq_gf (by decide +kernel : decode (zco 111) 42 = .ok (.getfield 23, 3)) (by decide +kernel)
theorem q111_45 : zev xs L 111 45 ls st h = zev xs L 111 46 ls (.int (nI 1) :: st) h := zq_ic (by decide +kernel : decode (zco 111) 45 = .ok (.iconst 1, 1)) rfl
theorem q111_46 {x : Int32} {a : Nat} : zev xs L 111 46 ls (.int x :: .ref a :: st) h = (zaldI h 20 a x).bind (fun x => zev xs L 111 47 ls (.int x :: st) h) := zq_ia (by decide +kernel : decode (zco 111) 46 = .ok (.iaload, 1))
theorem q111_47 {x y : Int32} {a : Nat} : zev xs L 111 47 ls (.int y :: .int x :: .ref a :: st) h = (zast h 20 a x (.int y)).bind (fun h => zev xs L 111 48 ls st h) := zq_ias (by decide +kernel : decode (zco 111) 47 = .ok (.iastore, 1))
theorem q111_48 : zev xs L 111 48 ls st h = zev xs L 111 49 ls (.int (nI 0) :: st) h := zq_ic (by decide +kernel : decode (zco 111) 48 = .ok (.iconst 0, 1)) rfl
theorem q111_49 {x : Int32} : zev xs L 111 49 [v0, v1, v2, v3] (.int x :: st) h = zev xs L 111 50 [v0, .int x, v2, v3] st h := zq_isn (by decide +kernel : decode (zco 111) 49 = .ok (.istore_n 1, 1)) (by decide +kernel) rfl
theorem q111_50 {x : Int32} : zev xs L 111 50 [v0, .int x, v2, v3] st h = zev xs L 111 51 [v0, .int x, v2, v3] (.int x :: st) h := zq_iln (by decide +kernel : decode (zco 111) 50 = .ok (.iload_n 1, 1)) rfl
theorem q111_51 : zev xs L 111 51 ls st h = zev xs L 111 53 ls (.int (nI 30) :: st) h := zq_bi (by decide +kernel : decode (zco 111) 51 = .ok (.bipush 30, 2)) rfl
theorem q111_53 {x y : Int32} : zev xs L 111 53 ls (.int y :: .int x :: st) h = if x < y then zev xs L 111 56 ls st h else zev xs L 111 119 ls st h := (zq_ic2 (by decide +kernel : decode (zco 111) 53 = .ok (.if_icmp .ge 66, 3)) (by decide +kernel)).trans (zdge)
theorem q111_56 {x : Nat} : zev xs L 111 56 [.ref x, v1, v2, v3] st h = zev xs L 111 57 [.ref x, v1, v2, v3] (.ref x :: st) h := zq_aln (by decide +kernel : decode (zco 111) 56 = .ok (.aload_n 0, 1)) rfl
theorem q111_57 {a : Nat} : zev xs L 111 57 ls (.ref a :: st) h = (zget h a 8 8).bind (fun v => zev xs L 111 60 ls (v :: st) h) := zq_gf (by decide +kernel : decode (zco 111) 57 = .ok (.getfield 29, 3)) (by decide +kernel)
theorem q111_60 {x : Int32} : zev xs L 111 60 [v0, .int x, v2, v3] st h = zev xs L 111 61 [v0, .int x, v2, v3] (.int x :: st) h := zq_iln (by decide +kernel : decode (zco 111) 60 = .ok (.iload_n 1, 1)) rfl
theorem q111_61 {x : Nat} : zev xs L 111 61 [.ref x, v1, v2, v3] st h = zev xs L 111 62 [.ref x, v1, v2, v3] (.ref x :: st) h := zq_aln (by decide +kernel : decode (zco 111) 61 = .ok (.aload_n 0, 1)) rfl
theorem q111_62 {a : Nat} : zev xs L 111 62 ls (.ref a :: st) h = (zget h a 8 8).bind (fun v => zev xs L 111 65 ls (v :: st) h) := zq_gf (by decide +kernel : decode (zco 111) 62 = .ok (.getfield 29, 3)) (by decide +kernel)
theorem q111_65 : zev xs L 111 65 ls st h = zev xs L 111 67 ls (.int (nI 30) :: st) h := zq_bi (by decide +kernel : decode (zco 111) 65 = .ok (.bipush 30, 2)) rfl
theorem q111_67 {x : Int32} : zev xs L 111 67 [v0, .int x, v2, v3] st h = zev xs L 111 68 [v0, .int x, v2, v3] (.int x :: st) h := zq_iln (by decide +kernel : decode (zco 111) 67 = .ok (.iload_n 1, 1)) rfl
theorem q111_68 {x y : Int32} : zev xs L 111 68 ls (.int y :: .int x :: st) h = zev xs L 111 69 ls (.int (x + y) :: st) h := zq_iadd (by decide +kernel : decode (zco 111) 68 = .ok (.iadd, 1))
theorem q111_69 {x : Int32} {a : Nat} : zev xs L 111 69 ls (.int x :: .ref a :: st) h = (zaldI h 20 a x).bind (fun x => zev xs L 111 70 ls (.int x :: st) h) := zq_ia (by decide +kernel : decode (zco 111) 69 = .ok (.iaload, 1))
theorem q111_70 {x y : Int32} {a : Nat} : zev xs L 111 70 ls (.int y :: .int x :: .ref a :: st) h = (zast h 20 a x (.int y)).bind (fun h => zev xs L 111 71 ls st h) := zq_ias (by decide +kernel : decode (zco 111) 70 = .ok (.iastore, 1))
theorem q111_71 {x : Int32} : zev xs L 111 71 [v0, .int x, v2, v3] st h = zev xs L 111 72 [v0, .int x, v2, v3] (.int x :: st) h := zq_iln (by decide +kernel : decode (zco 111) 71 = .ok (.iload_n 1, 1)) rfl
theorem q111_72 : zev xs L 111 72 ls st h = zev xs L 111 74 ls (.int (nI 15) :: st) h := zq_bi (by decide +kernel : decode (zco 111) 72 = .ok (.bipush 15, 2)) rfl
theorem q111_74 {x y : Int32} : zev xs L 111 74 ls (.int y :: .int x :: st) h = if x < y then zev xs L 111 77 ls st h else zev xs L 111 92 ls st h := (zq_ic2 (by decide +kernel : decode (zco 111) 74 = .ok (.if_icmp .ge 18, 3)) (by decide +kernel)).trans (zdge)
theorem q111_77 {x : Nat} : zev xs L 111 77 [.ref x, v1, v2, v3] st h = zev xs L 111 78 [.ref x, v1, v2, v3] (.ref x :: st) h := zq_aln (by decide +kernel : decode (zco 111) 77 = .ok (.aload_n 0, 1)) rfl
theorem q111_78 {a : Nat} : zev xs L 111 78 ls (.ref a :: st) h = (zget h a 8 5).bind (fun v => zev xs L 111 81 ls (v :: st) h) := zq_gf (by decide +kernel : decode (zco 111) 78 = .ok (.getfield 20, 3)) (by decide +kernel)
theorem q111_81 {x : Int32} : zev xs L 111 81 [v0, .int x, v2, v3] st h = zev xs L 111 82 [v0, .int x, v2, v3] (.int x :: st) h := zq_iln (by decide +kernel : decode (zco 111) 81 = .ok (.iload_n 1, 1)) rfl
theorem q111_82 {x : Nat} : zev xs L 111 82 [.ref x, v1, v2, v3] st h = zev xs L 111 83 [.ref x, v1, v2, v3] (.ref x :: st) h := zq_aln (by decide +kernel : decode (zco 111) 82 = .ok (.aload_n 0, 1)) rfl
theorem q111_83 {a : Nat} : zev xs L 111 83 ls (.ref a :: st) h = (zget h a 8 5).bind (fun v => zev xs L 111 86 ls (v :: st) h) := zq_gf (by decide +kernel : decode (zco 111) 83 = .ok (.getfield 20, 3)) (by decide +kernel)
theorem q111_86 : zev xs L 111 86 ls st h = zev xs L 111 88 ls (.int (nI 15) :: st) h := zq_bi (by decide +kernel : decode (zco 111) 86 = .ok (.bipush 15, 2)) rfl
theorem q111_88 {x : Int32} : zev xs L 111 88 [v0, .int x, v2, v3] st h = zev xs L 111 89 [v0, .int x, v2, v3] (.int x :: st) h := zq_iln (by decide +kernel : decode (zco 111) 88 = .ok (.iload_n 1, 1)) rfl
theorem q111_89 {x y : Int32} : zev xs L 111 89 ls (.int y :: .int x :: st) h = zev xs L 111 90 ls (.int (x + y) :: st) h := zq_iadd (by decide +kernel : decode (zco 111) 89 = .ok (.iadd, 1))
theorem q111_90 {x : Int32} {a : Nat} : zev xs L 111 90 ls (.int x :: .ref a :: st) h = (zaldI h 20 a x).bind (fun x => zev xs L 111 91 ls (.int x :: st) h) := zq_ia (by decide +kernel : decode (zco 111) 90 = .ok (.iaload, 1))
theorem q111_91 {x y : Int32} {a : Nat} : zev xs L 111 91 ls (.int y :: .int x :: .ref a :: st) h = (zast h 20 a x (.int y)).bind (fun h => zev xs L 111 92 ls st h) := zq_ias (by decide +kernel : decode (zco 111) 91 = .ok (.iastore, 1))
theorem q111_92 {x : Int32} : zev xs L 111 92 [v0, .int x, v2, v3] st h = zev xs L 111 93 [v0, .int x, v2, v3] (.int x :: st) h := zq_iln (by decide +kernel : decode (zco 111) 92 = .ok (.iload_n 1, 1)) rfl
theorem q111_93 : zev xs L 111 93 ls st h = zev xs L 111 95 ls (.int (nI 6) :: st) h := zq_bi (by decide +kernel : decode (zco 111) 93 = .ok (.bipush 6, 2)) rfl
theorem q111_95 {x y : Int32} : zev xs L 111 95 ls (.int y :: .int x :: st) h = if x < y then zev xs L 111 98 ls st h else zev xs L 111 113 ls st h := (zq_ic2 (by decide +kernel : decode (zco 111) 95 = .ok (.if_icmp .ge 18, 3)) (by decide +kernel)).trans (zdge)
theorem q111_98 {x : Nat} : zev xs L 111 98 [.ref x, v1, v2, v3] st h = zev xs L 111 99 [.ref x, v1, v2, v3] (.ref x :: st) h := zq_aln (by decide +kernel : decode (zco 111) 98 = .ok (.aload_n 0, 1)) rfl
theorem q111_99 {a : Nat} : zev xs L 111 99 ls (.ref a :: st) h = (zget h a 8 7).bind (fun v => zev xs L 111 102 ls (v :: st) h) := zq_gf (by decide +kernel : decode (zco 111) 99 = .ok (.getfield 26, 3)) (by decide +kernel)
theorem q111_102 {x : Int32} : zev xs L 111 102 [v0, .int x, v2, v3] st h = zev xs L 111 103 [v0, .int x, v2, v3] (.int x :: st) h := zq_iln (by decide +kernel : decode (zco 111) 102 = .ok (.iload_n 1, 1)) rfl
theorem q111_103 {x : Nat} : zev xs L 111 103 [.ref x, v1, v2, v3] st h = zev xs L 111 104 [.ref x, v1, v2, v3] (.ref x :: st) h := zq_aln (by decide +kernel : decode (zco 111) 103 = .ok (.aload_n 0, 1)) rfl
theorem q111_104 {a : Nat} : zev xs L 111 104 ls (.ref a :: st) h = (zget h a 8 7).bind (fun v => zev xs L 111 107 ls (v :: st) h) := zq_gf (by decide +kernel : decode (zco 111) 104 = .ok (.getfield 26, 3)) (by decide +kernel)
theorem q111_107 : zev xs L 111 107 ls st h = zev xs L 111 109 ls (.int (nI 6) :: st) h := zq_bi (by decide +kernel : decode (zco 111) 107 = .ok (.bipush 6, 2)) rfl
theorem q111_109 {x : Int32} : zev xs L 111 109 [v0, .int x, v2, v3] st h = zev xs L 111 110 [v0, .int x, v2, v3] (.int x :: st) h := zq_iln (by decide +kernel : decode (zco 111) 109 = .ok (.iload_n 1, 1)) rfl
theorem q111_110 {x y : Int32} : zev xs L 111 110 ls (.int y :: .int x :: st) h = zev xs L 111 111 ls (.int (x + y) :: st) h := zq_iadd (by decide +kernel : decode (zco 111) 110 = .ok (.iadd, 1))
theorem q111_111 {x : Int32} {a : Nat} : zev xs L 111 111 ls (.int x :: .ref a :: st) h = (zaldI h 20 a x).bind (fun x => zev xs L 111 112 ls (.int x :: st) h) := zq_ia (by decide +kernel : decode (zco 111) 111 = .ok (.iaload, 1))
theorem q111_112 {x y : Int32} {a : Nat} : zev xs L 111 112 ls (.int y :: .int x :: .ref a :: st) h = (zast h 20 a x (.int y)).bind (fun h => zev xs L 111 113 ls st h) := zq_ias (by decide +kernel : decode (zco 111) 112 = .ok (.iastore, 1))
theorem q111_113 {x : Int32} : zev xs L 111 113 [v0, .int x, v2, v3] st h = zev xs L 111 116 [v0, .int (x + nI 1), v2, v3] st h := zq_inc (by decide +kernel : decode (zco 111) 113 = .ok (.iinc 1 1, 3)) rfl (by decide +kernel) (zn_1 x) rfl
theorem q111_116 : zev xs L 111 116 ls st h = zev xs L 111 50 ls st h := zq_go (by decide +kernel : decode (zco 111) 116 = .ok (.goto (-66), 3)) (by decide +kernel)
theorem q111_119 : zev xs L 111 119 ls st h = zev xs L 111 120 ls (.int (nI 0) :: st) h := zq_ic (by decide +kernel : decode (zco 111) 119 = .ok (.iconst 0, 1)) rfl
theorem q111_120 {x : Int32} : zev xs L 111 120 [v0, v1, v2, v3] (.int x :: st) h = zev xs L 111 121 [v0, .int x, v2, v3] st h := zq_isn (by decide +kernel : decode (zco 111) 120 = .ok (.istore_n 1, 1)) (by decide +kernel) rfl
theorem q111_121 {x : Int32} : zev xs L 111 121 [v0, .int x, v2, v3] st h = zev xs L 111 122 [v0, .int x, v2, v3] (.int x :: st) h := zq_iln (by decide +kernel : decode (zco 111) 121 = .ok (.iload_n 1, 1)) rfl
theorem q111_122 : zev xs L 111 122 ls st h = zev xs L 111 124 ls (.int (nI 61) :: st) h := zq_bi (by decide +kernel : decode (zco 111) 122 = .ok (.bipush 61, 2)) rfl
theorem q111_124 {x y : Int32} : zev xs L 111 124 ls (.int y :: .int x :: st) h = if x < y then zev xs L 111 127 ls st h else zev xs L 111 140 ls st h := (zq_ic2 (by decide +kernel : decode (zco 111) 124 = .ok (.if_icmp .ge 16, 3)) (by decide +kernel)).trans (zdge)
theorem q111_127 {x : Nat} : zev xs L 111 127 [.ref x, v1, v2, v3] st h = zev xs L 111 128 [.ref x, v1, v2, v3] (.ref x :: st) h := zq_aln (by decide +kernel : decode (zco 111) 127 = .ok (.aload_n 0, 1)) rfl
theorem q111_128 {a : Nat} : zev xs L 111 128 ls (.ref a :: st) h = (zget h a 8 9).bind (fun v => zev xs L 111 131 ls (v :: st) h) := zq_gf (by decide +kernel : decode (zco 111) 128 = .ok (.getfield 32, 3)) (by decide +kernel)
theorem q111_131 {x : Int32} : zev xs L 111 131 [v0, .int x, v2, v3] st h = zev xs L 111 132 [v0, .int x, v2, v3] (.int x :: st) h := zq_iln (by decide +kernel : decode (zco 111) 131 = .ok (.iload_n 1, 1)) rfl
theorem q111_132 : zev xs L 111 132 ls st h = zev xs L 111 133 ls (.int (nI 0) :: st) h := zq_ic (by decide +kernel : decode (zco 111) 132 = .ok (.iconst 0, 1)) rfl
theorem q111_133 {x y : Int32} {a : Nat} : zev xs L 111 133 ls (.int y :: .int x :: .ref a :: st) h = (zast h 20 a x (.int y)).bind (fun h => zev xs L 111 134 ls st h) := zq_ias (by decide +kernel : decode (zco 111) 133 = .ok (.iastore, 1))
theorem q111_134 {x : Int32} : zev xs L 111 134 [v0, .int x, v2, v3] st h = zev xs L 111 137 [v0, .int (x + nI 1), v2, v3] st h := zq_inc (by decide +kernel : decode (zco 111) 134 = .ok (.iinc 1 1, 3)) rfl (by decide +kernel) (zn_1 x) rfl
theorem q111_137 : zev xs L 111 137 ls st h = zev xs L 111 121 ls st h := zq_go (by decide +kernel : decode (zco 111) 137 = .ok (.goto (-16), 3)) (by decide +kernel)
theorem q111_140 : zev xs L 111 140 ls st h = zev xs L 111 141 ls (.int (nI 0) :: st) h := zq_ic (by decide +kernel : decode (zco 111) 140 = .ok (.iconst 0, 1)) rfl
theorem q111_141 {x : Int32} : zev xs L 111 141 [v0, v1, v2, v3] (.int x :: st) h = zev xs L 111 142 [v0, .int x, v2, v3] st h := zq_isn (by decide +kernel : decode (zco 111) 141 = .ok (.istore_n 1, 1)) (by decide +kernel) rfl
theorem q111_142 : zev xs L 111 142 ls st h = zev xs L 111 143 ls (.int (nI 0) :: st) h := zq_ic (by decide +kernel : decode (zco 111) 142 = .ok (.iconst 0, 1)) rfl
theorem q111_143 {x : Int32} : zev xs L 111 143 [v0, v1, v2, v3] (.int x :: st) h = zev xs L 111 144 [v0, v1, .int x, v3] st h := zq_isn (by decide +kernel : decode (zco 111) 143 = .ok (.istore_n 2, 1)) (by decide +kernel) rfl
theorem q111_144 {x : Int32} : zev xs L 111 144 [v0, v1, .int x, v3] st h = zev xs L 111 145 [v0, v1, .int x, v3] (.int x :: st) h := zq_iln (by decide +kernel : decode (zco 111) 144 = .ok (.iload_n 2, 1)) rfl
theorem q111_145 {x : Nat} : zev xs L 111 145 [.ref x, v1, v2, v3] st h = zev xs L 111 146 [.ref x, v1, v2, v3] (.ref x :: st) h := zq_aln (by decide +kernel : decode (zco 111) 145 = .ok (.aload_n 0, 1)) rfl
theorem q111_146 {a : Nat} : zev xs L 111 146 ls (.ref a :: st) h = (zget h a 8 4).bind (fun v => zev xs L 111 149 ls (v :: st) h) := zq_gf (by decide +kernel : decode (zco 111) 146 = .ok (.getfield 17, 3)) (by decide +kernel)
theorem q111_149 : zev xs L 111 149 ls st h = zev xs L 111 150 ls (.int (nI 0) :: st) h := zq_ic (by decide +kernel : decode (zco 111) 149 = .ok (.iconst 0, 1)) rfl
theorem q111_150 {x : Int32} {a : Nat} : zev xs L 111 150 ls (.int x :: .ref a :: st) h = (zaldI h 20 a x).bind (fun x => zev xs L 111 151 ls (.int x :: st) h) := zq_ia (by decide +kernel : decode (zco 111) 150 = .ok (.iaload, 1))
theorem q111_151 {x y : Int32} : zev xs L 111 151 ls (.int y :: .int x :: st) h = if x < y then zev xs L 111 154 ls st h else zev xs L 111 204 ls st h := (zq_ic2 (by decide +kernel : decode (zco 111) 151 = .ok (.if_icmp .ge 53, 3)) (by decide +kernel)).trans (zdge)
theorem q111_154 : zev xs L 111 154 ls st h = zev xs L 111 155 ls (.int (nI 0) :: st) h := zq_ic (by decide +kernel : decode (zco 111) 154 = .ok (.iconst 0, 1)) rfl
theorem q111_155 {x : Int32} : zev xs L 111 155 [v0, v1, v2, v3] (.int x :: st) h = zev xs L 111 156 [v0, v1, v2, .int x] st h := zq_isn (by decide +kernel : decode (zco 111) 155 = .ok (.istore_n 3, 1)) (by decide +kernel) rfl
theorem q111_156 {x : Int32} : zev xs L 111 156 [v0, v1, v2, .int x] st h = zev xs L 111 157 [v0, v1, v2, .int x] (.int x :: st) h := zq_iln (by decide +kernel : decode (zco 111) 156 = .ok (.iload_n 3, 1)) rfl
theorem q111_157 {x : Nat} : zev xs L 111 157 [.ref x, v1, v2, v3] st h = zev xs L 111 158 [.ref x, v1, v2, v3] (.ref x :: st) h := zq_aln (by decide +kernel : decode (zco 111) 157 = .ok (.aload_n 0, 1)) rfl
theorem q111_158 {a : Nat} : zev xs L 111 158 ls (.ref a :: st) h = (zget h a 8 5).bind (fun v => zev xs L 111 161 ls (v :: st) h) := zq_gf (by decide +kernel : decode (zco 111) 158 = .ok (.getfield 20, 3)) (by decide +kernel)
theorem q111_161 : zev xs L 111 161 ls st h = zev xs L 111 162 ls (.int (nI 3) :: st) h := zq_ic (by decide +kernel : decode (zco 111) 161 = .ok (.iconst 3, 1)) rfl
theorem q111_162 {x : Int32} : zev xs L 111 162 [v0, v1, .int x, v3] st h = zev xs L 111 163 [v0, v1, .int x, v3] (.int x :: st) h := zq_iln (by decide +kernel : decode (zco 111) 162 = .ok (.iload_n 2, 1)) rfl
theorem q111_163 {x y : Int32} : zev xs L 111 163 ls (.int y :: .int x :: st) h = zev xs L 111 164 ls (.int (x * y) :: st) h := zq_imul (by decide +kernel : decode (zco 111) 163 = .ok (.imul, 1))
theorem q111_164 : zev xs L 111 164 ls st h = zev xs L 111 165 ls (.int (nI 2) :: st) h := zq_ic (by decide +kernel : decode (zco 111) 164 = .ok (.iconst 2, 1)) rfl
theorem q111_165 {x y : Int32} : zev xs L 111 165 ls (.int y :: .int x :: st) h = zev xs L 111 166 ls (.int (x + y) :: st) h := zq_iadd (by decide +kernel : decode (zco 111) 165 = .ok (.iadd, 1))
theorem q111_166 {x : Int32} {a : Nat} : zev xs L 111 166 ls (.int x :: .ref a :: st) h = (zaldI h 20 a x).bind (fun x => zev xs L 111 167 ls (.int x :: st) h) := zq_ia (by decide +kernel : decode (zco 111) 166 = .ok (.iaload, 1))
theorem q111_167 {x y : Int32} : zev xs L 111 167 ls (.int y :: .int x :: st) h = if x < y then zev xs L 111 170 ls st h else zev xs L 111 198 ls st h := (zq_ic2 (by decide +kernel : decode (zco 111) 167 = .ok (.if_icmp .ge 31, 3)) (by decide +kernel)).trans (zdge)
theorem q111_170 {x : Nat} : zev xs L 111 170 [.ref x, v1, v2, v3] st h = zev xs L 111 171 [.ref x, v1, v2, v3] (.ref x :: st) h := zq_aln (by decide +kernel : decode (zco 111) 170 = .ok (.aload_n 0, 1)) rfl
theorem q111_171 {a : Nat} : zev xs L 111 171 ls (.ref a :: st) h = (zget h a 8 9).bind (fun v => zev xs L 111 174 ls (v :: st) h) := zq_gf (by decide +kernel : decode (zco 111) 171 = .ok (.getfield 32, 3)) (by decide +kernel)
theorem q111_174 : zev xs L 111 174 ls st h = zev xs L 111 175 ls (.int (nI 0) :: st) h := zq_ic (by decide +kernel : decode (zco 111) 174 = .ok (.iconst 0, 1)) rfl
theorem q111_175 {x : Int32} : zev xs L 111 175 [v0, .int x, v2, v3] st h = zev xs L 111 176 [v0, .int x, v2, v3] (.int x :: st) h := zq_iln (by decide +kernel : decode (zco 111) 175 = .ok (.iload_n 1, 1)) rfl
theorem q111_176 {x y : Int32} : zev xs L 111 176 ls (.int y :: .int x :: st) h = zev xs L 111 177 ls (.int (x + y) :: st) h := zq_iadd (by decide +kernel : decode (zco 111) 176 = .ok (.iadd, 1))
theorem q111_177 {x : Int32} : zev xs L 111 177 [v0, .int x, v2, v3] st h = zev xs L 111 178 [v0, .int x, v2, v3] (.int x :: st) h := zq_iln (by decide +kernel : decode (zco 111) 177 = .ok (.iload_n 1, 1)) rfl
theorem q111_178 {x y : Int32} {a : Nat} : zev xs L 111 178 ls (.int y :: .int x :: .ref a :: st) h = (zast h 20 a x (.int y)).bind (fun h => zev xs L 111 179 ls st h) := zq_ias (by decide +kernel : decode (zco 111) 178 = .ok (.iastore, 1))
theorem q111_179 {x : Nat} : zev xs L 111 179 [.ref x, v1, v2, v3] st h = zev xs L 111 180 [.ref x, v1, v2, v3] (.ref x :: st) h := zq_aln (by decide +kernel : decode (zco 111) 179 = .ok (.aload_n 0, 1)) rfl
theorem q111_180 {a : Nat} : zev xs L 111 180 ls (.ref a :: st) h = (zget h a 8 9).bind (fun v => zev xs L 111 183 ls (v :: st) h) := zq_gf (by decide +kernel : decode (zco 111) 180 = .ok (.getfield 32, 3)) (by decide +kernel)
theorem q111_183 : zev xs L 111 183 ls st h = zev xs L 111 185 ls (.int (nI 6) :: st) h := zq_bi (by decide +kernel : decode (zco 111) 183 = .ok (.bipush 6, 2)) rfl
theorem q111_185 {x : Int32} : zev xs L 111 185 [v0, .int x, v2, v3] st h = zev xs L 111 186 [v0, .int x, v2, v3] (.int x :: st) h := zq_iln (by decide +kernel : decode (zco 111) 185 = .ok (.iload_n 1, 1)) rfl
theorem q111_186 {x y : Int32} : zev xs L 111 186 ls (.int y :: .int x :: st) h = zev xs L 111 187 ls (.int (x + y) :: st) h := zq_iadd (by decide +kernel : decode (zco 111) 186 = .ok (.iadd, 1))
theorem q111_187 {x : Int32} : zev xs L 111 187 [v0, v1, .int x, v3] st h = zev xs L 111 188 [v0, v1, .int x, v3] (.int x :: st) h := zq_iln (by decide +kernel : decode (zco 111) 187 = .ok (.iload_n 2, 1)) rfl
theorem q111_188 {x y : Int32} {a : Nat} : zev xs L 111 188 ls (.int y :: .int x :: .ref a :: st) h = (zast h 20 a x (.int y)).bind (fun h => zev xs L 111 189 ls st h) := zq_ias (by decide +kernel : decode (zco 111) 188 = .ok (.iastore, 1))
theorem q111_189 {x : Int32} : zev xs L 111 189 [v0, .int x, v2, v3] st h = zev xs L 111 192 [v0, .int (x + nI 1), v2, v3] st h := zq_inc (by decide +kernel : decode (zco 111) 189 = .ok (.iinc 1 1, 3)) rfl (by decide +kernel) (zn_1 x) rfl
theorem q111_192 {x : Int32} : zev xs L 111 192 [v0, v1, v2, .int x] st h = zev xs L 111 195 [v0, v1, v2, .int (x + nI 1)] st h := zq_inc (by decide +kernel : decode (zco 111) 192 = .ok (.iinc 3 1, 3)) rfl (by decide +kernel) (zn_1 x) rfl
theorem q111_195 : zev xs L 111 195 ls st h = zev xs L 111 156 ls st h := zq_go (by decide +kernel : decode (zco 111) 195 = .ok (.goto (-39), 3)) (by decide +kernel)
theorem q111_198 {x : Int32} : zev xs L 111 198 [v0, v1, .int x, v3] st h = zev xs L 111 201 [v0, v1, .int (x + nI 1), v3] st h := zq_inc (by decide +kernel : decode (zco 111) 198 = .ok (.iinc 2 1, 3)) rfl (by decide +kernel) (zn_1 x) rfl
theorem q111_201 : zev xs L 111 201 ls st h = zev xs L 111 144 ls st h := zq_go (by decide +kernel : decode (zco 111) 201 = .ok (.goto (-57), 3)) (by decide +kernel)
theorem q111_204 {x : Nat} : zev xs L 111 204 [.ref x, v1, v2, v3] st h = zev xs L 111 205 [.ref x, v1, v2, v3] (.ref x :: st) h := zq_aln (by decide +kernel : decode (zco 111) 204 = .ok (.aload_n 0, 1)) rfl
theorem q111_205 : zev xs L 111 205 ls st h = zev xs L 111 206 ls (.int (nI 0) :: st) h := zq_ic (by decide +kernel : decode (zco 111) 205 = .ok (.iconst 0, 1)) rfl
theorem q111_206 {x : Int32} {a : Nat} : zev xs L 111 206 ls (.int x :: .ref a :: st) h = (zput h a 8 12 (.int x)).bind (fun h => zev xs L 111 209 ls st h) := zq_pfi (by decide +kernel : decode (zco 111) 206 = .ok (.putfield 96, 3)) (by decide +kernel) (by decide +kernel)
theorem q111_209 {x : Nat} : zev xs L 111 209 [.ref x, v1, v2, v3] st h = zev xs L 111 210 [.ref x, v1, v2, v3] (.ref x :: st) h := zq_aln (by decide +kernel : decode (zco 111) 209 = .ok (.aload_n 0, 1)) rfl
theorem q111_210 : zev xs L 111 210 ls st h = zev xs L 111 211 ls (.int (nI 0) :: st) h := zq_ic (by decide +kernel : decode (zco 111) 210 = .ok (.iconst 0, 1)) rfl
theorem q111_211 {x : Int32} {a : Nat} : zev xs L 111 211 ls (.int x :: .ref a :: st) h = (zput h a 8 11 (.int x)).bind (fun h => zev xs L 111 214 ls st h) := zq_pfi (by decide +kernel : decode (zco 111) 211 = .ok (.putfield 99, 3)) (by decide +kernel) (by decide +kernel)
theorem q111_214 {x : Nat} : zev xs L 111 214 [.ref x, v1, v2, v3] st h = zev xs L 111 215 [.ref x, v1, v2, v3] (.ref x :: st) h := zq_aln (by decide +kernel : decode (zco 111) 214 = .ok (.aload_n 0, 1)) rfl
theorem q111_215 : zev xs L 111 215 ls st h = zev xs L 111 216 ls (.int (nI 0) :: st) h := zq_ic (by decide +kernel : decode (zco 111) 215 = .ok (.iconst 0, 1)) rfl
theorem q111_216 {x : Int32} {a : Nat} : zev xs L 111 216 ls (.int x :: .ref a :: st) h = (zput h a 8 10 (.int x)).bind (fun h => zev xs L 111 219 ls st h) := zq_pfi (by decide +kernel : decode (zco 111) 216 = .ok (.putfield 102, 3)) (by decide +kernel) (by decide +kernel)
theorem q111_219 : zev xs L 111 219 ls [] h = some (none, h) := zq_rv (by decide +kernel : decode (zco 111) 219 = .ok (.return_, 1)) (by decide +kernel)
end
/- X8_fault -/
section
variable {xs : Nat → Int32} {L : Nat} {ls st : List Value} {h : ZH} {v0 v1 : Value} 
theorem q112_0 {x : Nat} : zev xs L 112 0 [.ref x, v1] st h = zev xs L 112 1 [.ref x, v1] (.ref x :: st) h := zq_aln (by decide +kernel : decode (zco 112) 0 = .ok (.aload_n 0, 1)) rfl
theorem q112_1 : zev xs L 112 1 ls st h = zev xs L 112 2 ls (.int (nI 0) :: st) h := zq_ic (by decide +kernel : decode (zco 112) 1 = .ok (.iconst 0, 1)) rfl
theorem q112_2 {x : Int32} {a : Nat} : zev xs L 112 2 ls (.int x :: .ref a :: st) h = (zput h a 8 2 (.int x)).bind (fun h => zev xs L 112 5 ls st h) := zq_pfi (by decide +kernel : decode (zco 112) 2 = .ok (.putfield 69, 3)) (by decide +kernel) (by decide +kernel)
theorem q112_5 {x : Nat} : zev xs L 112 5 [.ref x, v1] st h = zev xs L 112 6 [.ref x, v1] (.ref x :: st) h := zq_aln (by decide +kernel : decode (zco 112) 5 = .ok (.aload_n 0, 1)) rfl
theorem q112_6 {a : Nat} (ht : ztag h a = some 8) : zev xs L 112 6 ls [.ref a] h = (zev xs L 109 0 [.ref a] [] h).bind (fun q => zev xs L 112 9 ls (q.1.toList ++ []) q.2) := zq_call (av := [.ref a]) (rest := []) (n := 1) (k := 1) (J := []) (i := .invokevirtual 53) (by decide +kernel : decode (zco 112) 6 = .ok (.invokevirtual 53, 3)) rfl (by decide +kernel) (by decide +kernel) (Nat.le_of_ble_eq_true rfl) rfl rfl rfl rfl (Or.inr (Or.inr ⟨_, _, rfl, Or.inr (Or.inr ⟨rfl, ht⟩)⟩))
theorem q112_9 {x : Nat} : zev xs L 112 9 [.ref x, v1] st h = zev xs L 112 10 [.ref x, v1] (.ref x :: st) h := zq_aln (by decide +kernel : decode (zco 112) 9 = .ok (.aload_n 0, 1)) rfl
theorem q112_10 {a : Nat} : zev xs L 112 10 ls (.ref a :: st) h = (zget h a 8 2).bind (fun v => zev xs L 112 13 ls (v :: st) h) := zq_gf (by decide +kernel : decode (zco 112) 10 = .ok (.getfield 69, 3)) (by decide +kernel)
theorem q112_13 {x : Nat} : zev xs L 112 13 [.ref x, v1] st h = zev xs L 112 14 [.ref x, v1] (.ref x :: st) h := zq_aln (by decide +kernel : decode (zco 112) 13 = .ok (.aload_n 0, 1)) rfl
theorem q112_14 {a : Nat} : zev xs L 112 14 ls (.ref a :: st) h = (zget h a 8 0).bind (fun v => zev xs L 112 17 ls (v :: st) h) := zq_gf (by decide +kernel : decode (zco 112) 14 = .ok (.getfield 65, 3)) (by decide +kernel)
theorem q112_17 {x y : Int32} : zev xs L 112 17 ls (.int y :: .int x :: st) h = if x < y then zev xs L 112 20 ls st h else zev xs L 112 37 ls st h := (zq_ic2 (by decide +kernel : decode (zco 112) 17 = .ok (.if_icmp .ge 20, 3)) (by decide +kernel)).trans (zdge)
theorem q112_20 {x : Nat} : zev xs L 112 20 [.ref x, v1] st h = zev xs L 112 21 [.ref x, v1] (.ref x :: st) h := zq_aln (by decide +kernel : decode (zco 112) 20 = .ok (.aload_n 0, 1)) rfl
theorem q112_21 {a : Nat} : zev xs L 112 21 ls (.ref a :: st) h = (zget h a 8 2).bind (fun v => zev xs L 112 24 ls (v :: st) h) := zq_gf (by decide +kernel : decode (zco 112) 21 = .ok (.getfield 69, 3)) (by decide +kernel)
theorem q112_24 {x : Int32} : zev xs L 112 24 [v0, v1] (.int x :: st) h = zev xs L 112 25 [v0, .int x] st h := zq_isn (by decide +kernel : decode (zco 112) 24 = .ok (.istore_n 1, 1)) (by decide +kernel) rfl
theorem q112_25 {x : Nat} : zev xs L 112 25 [.ref x, v1] st h = zev xs L 112 26 [.ref x, v1] (.ref x :: st) h := zq_aln (by decide +kernel : decode (zco 112) 25 = .ok (.aload_n 0, 1)) rfl
theorem q112_26 {a : Nat} (ht : ztag h a = some 8) : zev xs L 112 26 ls [.ref a] h = (zev xs L 107 0 [.ref a, .null, .null, .null, .null] [] h).bind (fun q => zev xs L 112 29 ls (q.1.toList ++ []) q.2) := zq_call (av := [.ref a]) (rest := []) (n := 1) (k := 5) (J := []) (i := .invokevirtual 105) (by decide +kernel : decode (zco 112) 26 = .ok (.invokevirtual 105, 3)) rfl (by decide +kernel) (by decide +kernel) (Nat.le_of_ble_eq_true rfl) rfl rfl rfl rfl (Or.inr (Or.inr ⟨_, _, rfl, Or.inr (Or.inr ⟨rfl, ht⟩)⟩))
theorem q112_29 {x : Int32} : zev xs L 112 29 ls (.int x :: st) h = if x = 0 then zev xs L 112 32 ls st h else zev xs L 112 34 ls st h := (zq_if (by decide +kernel : decode (zco 112) 29 = .ok (.ifCond .ne 5, 3)) (by decide +kernel)).trans (zdecn rfl)
theorem q112_32 {x : Int32} : zev xs L 112 32 [v0, .int x] st h = zev xs L 112 33 [v0, .int x] (.int x :: st) h := zq_iln (by decide +kernel : decode (zco 112) 32 = .ok (.iload_n 1, 1)) rfl
theorem q112_33 {x : Int32} : zev xs L 112 33 ls [.int x] h = some (some (.int x), h) := zq_ri (by decide +kernel : decode (zco 112) 33 = .ok (.ireturn, 1)) (by decide +kernel)
theorem q112_34 : zev xs L 112 34 ls st h = zev xs L 112 9 ls st h := zq_go (by decide +kernel : decode (zco 112) 34 = .ok (.goto (-25), 3)) (by decide +kernel)
theorem q112_37 : zev xs L 112 37 ls st h = zev xs L 112 39 ls (.int ((-4)) :: st) h := zq_bi (by decide +kernel : decode (zco 112) 37 = .ok (.bipush (-4), 2)) rfl
theorem q112_39 {x : Int32} : zev xs L 112 39 ls [.int x] h = some (some (.int x), h) := zq_ri (by decide +kernel : decode (zco 112) 39 = .ok (.ireturn, 1)) (by decide +kernel)
end
/- X8_lay -/
section
variable {xs : Nat → Int32} {L : Nat} {ls st : List Value} {h : ZH} {v0 : Value} 
theorem q113_0 {x : Nat} : zev xs L 113 0 [.ref x] st h = zev xs L 113 1 [.ref x] (.ref x :: st) h := zq_aln (by decide +kernel : decode (zco 113) 0 = .ok (.aload_n 0, 1)) rfl
theorem q113_1 {a : Nat} (ht : ztag h a = some 8) : zev xs L 113 1 ls [.ref a] h = (zev xs L 112 0 [.ref a, .null] [] h).bind (fun q => zev xs L 113 4 ls (q.1.toList ++ []) q.2) := zq_call (av := [.ref a]) (rest := []) (n := 1) (k := 2) (J := []) (i := .invokevirtual 108) (by decide +kernel : decode (zco 113) 1 = .ok (.invokevirtual 108, 3)) rfl (by decide +kernel) (by decide +kernel) (Nat.le_of_ble_eq_true rfl) rfl rfl rfl rfl (Or.inr (Or.inr ⟨_, _, rfl, Or.inr (Or.inr ⟨rfl, ht⟩)⟩))
theorem q113_4 : zev xs L 113 4 ls st h = zev xs L 113 6 ls (.int ((-4)) :: st) h := zq_bi (by decide +kernel : decode (zco 113) 4 = .ok (.bipush (-4), 2)) rfl
theorem q113_6 {x y : Int32} : zev xs L 113 6 ls (.int y :: .int x :: st) h = if x = y then zev xs L 113 9 ls st h else zev xs L 113 40 ls st h := (zq_ic2 (by decide +kernel : decode (zco 113) 6 = .ok (.if_icmp .ne 34, 3)) (by decide +kernel)).trans (zdecn rfl)
theorem q113_9 {x : Nat} : zev xs L 113 9 [.ref x] st h = zev xs L 113 10 [.ref x] (.ref x :: st) h := zq_aln (by decide +kernel : decode (zco 113) 9 = .ok (.aload_n 0, 1)) rfl
theorem q113_10 {a : Nat} : zev xs L 113 10 ls (.ref a :: st) h = (zget h a 8 4).bind (fun v => zev xs L 113 13 ls (v :: st) h) := zq_gf (by decide +kernel : decode (zco 113) 10 = .ok (.getfield 17, 3)) (by decide +kernel)
theorem q113_13 : zev xs L 113 13 ls st h = zev xs L 113 14 ls (.int (nI 1) :: st) h := zq_ic (by decide +kernel : decode (zco 113) 13 = .ok (.iconst 1, 1)) rfl
theorem q113_14 {x : Int32} {a : Nat} : zev xs L 113 14 ls (.int x :: .ref a :: st) h = (zaldI h 20 a x).bind (fun x => zev xs L 113 15 ls (.int x :: st) h) := zq_ia (by decide +kernel : decode (zco 113) 14 = .ok (.iaload, 1))
theorem q113_15 {x : Int32} : zev xs L 113 15 ls (.int x :: st) h = if x = 0 then zev xs L 113 40 ls st h else zev xs L 113 18 ls st h := (zq_if (by decide +kernel : decode (zco 113) 15 = .ok (.ifCond .eq 25, 3)) (by decide +kernel)).trans (zdec rfl)
theorem q113_18 {x : Nat} : zev xs L 113 18 [.ref x] st h = zev xs L 113 19 [.ref x] (.ref x :: st) h := zq_aln (by decide +kernel : decode (zco 113) 18 = .ok (.aload_n 0, 1)) rfl
theorem q113_19 {a : Nat} : zev xs L 113 19 ls (.ref a :: st) h = (zget h a 8 6).bind (fun v => zev xs L 113 22 ls (v :: st) h) := zq_gf (by decide +kernel : decode (zco 113) 19 = .ok (.getfield 23, 3)) (by decide +kernel)
theorem q113_22 : zev xs L 113 22 ls st h = zev xs L 113 23 ls (.int (nI 1) :: st) h := zq_ic (by decide +kernel : decode (zco 113) 22 = .ok (.iconst 1, 1)) rfl
theorem q113_23 {x : Int32} {a : Nat} : zev xs L 113 23 ls (.int x :: .ref a :: st) h = (zaldI h 20 a x).bind (fun x => zev xs L 113 24 ls (.int x :: st) h) := zq_ia (by decide +kernel : decode (zco 113) 23 = .ok (.iaload, 1))
theorem q113_24 {x : Int32} : zev xs L 113 24 ls (.int x :: st) h = if x = 0 then zev xs L 113 40 ls st h else zev xs L 113 27 ls st h := (zq_if (by decide +kernel : decode (zco 113) 24 = .ok (.ifCond .eq 16, 3)) (by decide +kernel)).trans (zdec rfl)
theorem q113_27 {x : Nat} : zev xs L 113 27 [.ref x] st h = zev xs L 113 28 [.ref x] (.ref x :: st) h := zq_aln (by decide +kernel : decode (zco 113) 27 = .ok (.aload_n 0, 1)) rfl
theorem q113_28 {a : Nat} (ht : ztag h a = some 8) : zev xs L 113 28 ls [.ref a] h = (zev xs L 110 0 [.ref a, .null, .null] [] h).bind (fun q => zev xs L 113 31 ls (q.1.toList ++ []) q.2) := zq_call (av := [.ref a]) (rest := []) (n := 1) (k := 3) (J := []) (i := .invokevirtual 111) (by decide +kernel : decode (zco 113) 28 = .ok (.invokevirtual 111, 3)) rfl (by decide +kernel) (by decide +kernel) (Nat.le_of_ble_eq_true rfl) rfl rfl rfl rfl (Or.inr (Or.inr ⟨_, _, rfl, Or.inr (Or.inr ⟨rfl, ht⟩)⟩))
theorem q113_31 {x : Nat} : zev xs L 113 31 [.ref x] st h = zev xs L 113 32 [.ref x] (.ref x :: st) h := zq_aln (by decide +kernel : decode (zco 113) 31 = .ok (.aload_n 0, 1)) rfl
theorem q113_32 {a : Nat} : zev xs L 113 32 ls (.ref a :: st) h = (zget h a 8 6).bind (fun v => zev xs L 113 35 ls (v :: st) h) := zq_gf (by decide +kernel : decode (zco 113) 32 = .ok (.getfield 23, 3)) (by decide +kernel)
theorem q113_35 : zev xs L 113 35 ls st h = zev xs L 113 36 ls (.int (nI 1) :: st) h := zq_ic (by decide +kernel : decode (zco 113) 35 = .ok (.iconst 1, 1)) rfl
theorem q113_36 {x : Int32} {a : Nat} : zev xs L 113 36 ls (.int x :: .ref a :: st) h = (zaldI h 20 a x).bind (fun x => zev xs L 113 37 ls (.int x :: st) h) := zq_ia (by decide +kernel : decode (zco 113) 36 = .ok (.iaload, 1))
theorem q113_37 {x y : Int32} : zev xs L 113 37 ls (.int y :: .int x :: st) h = if x = y then zev xs L 113 43 ls st h else zev xs L 113 40 ls st h := (zq_ic2 (by decide +kernel : decode (zco 113) 37 = .ok (.if_icmp .eq 6, 3)) (by decide +kernel)).trans (zdec rfl)
theorem q113_40 : zev xs L 113 40 ls st h = zev xs L 113 42 ls (.int ((-2)) :: st) h := zq_bi (by decide +kernel : decode (zco 113) 40 = .ok (.bipush (-2), 2)) rfl
theorem q113_42 {x : Int32} : zev xs L 113 42 ls [.int x] h = some (some (.int x), h) := zq_ri (by decide +kernel : decode (zco 113) 42 = .ok (.ireturn, 1)) (by decide +kernel)
theorem q113_43 {x : Nat} : zev xs L 113 43 [.ref x] st h = zev xs L 113 44 [.ref x] (.ref x :: st) h := zq_aln (by decide +kernel : decode (zco 113) 43 = .ok (.aload_n 0, 1)) rfl
theorem q113_44 {a : Nat} (ht : ztag h a = some 8) : zev xs L 113 44 ls [.ref a] h = (zev xs L 111 0 [.ref a, .null, .null, .null] [] h).bind (fun q => zev xs L 113 47 ls (q.1.toList ++ []) q.2) := zq_call (av := [.ref a]) (rest := []) (n := 1) (k := 4) (J := []) (i := .invokevirtual 56) (by decide +kernel : decode (zco 113) 44 = .ok (.invokevirtual 56, 3)) rfl (by decide +kernel) (by decide +kernel) (Nat.le_of_ble_eq_true rfl) rfl rfl rfl rfl (Or.inr (Or.inr ⟨_, _, rfl, Or.inr (Or.inr ⟨rfl, ht⟩)⟩))
theorem q113_47 {x : Nat} : zev xs L 113 47 [.ref x] st h = zev xs L 113 48 [.ref x] (.ref x :: st) h := zq_aln (by decide +kernel : decode (zco 113) 47 = .ok (.aload_n 0, 1)) rfl
theorem q113_48 {a : Nat} : zev xs L 113 48 ls (.ref a :: st) h = (zget h a 8 6).bind (fun v => zev xs L 113 51 ls (v :: st) h) := zq_gf (by decide +kernel : decode (zco 113) 48 = .ok (.getfield 23, 3)) (by decide +kernel)
theorem q113_51 : zev xs L 113 51 ls st h = zev xs L 113 52 ls (.int (nI 0) :: st) h := zq_ic (by decide +kernel : decode (zco 113) 51 = .ok (.iconst 0, 1)) rfl
theorem q113_52 {x : Int32} {a : Nat} : zev xs L 113 52 ls (.int x :: .ref a :: st) h = (zaldI h 20 a x).bind (fun x => zev xs L 113 53 ls (.int x :: st) h) := zq_ia (by decide +kernel : decode (zco 113) 52 = .ok (.iaload, 1))
theorem q113_53 {x : Int32} : zev xs L 113 53 ls [.int x] h = some (some (.int x), h) := zq_ri (by decide +kernel : decode (zco 113) 53 = .ok (.ireturn, 1)) (by decide +kernel)
end
/- X8_isMan -/
section
variable {xs : Nat → Int32} {L : Nat} {ls st : List Value} {h : ZH} {v0 v1 : Value} 
theorem q114_0 {x : Int32} : zev xs L 114 0 [v0, .int x] st h = zev xs L 114 1 [v0, .int x] (.int x :: st) h := zq_iln (by decide +kernel : decode (zco 114) 0 = .ok (.iload_n 1, 1)) rfl
theorem q114_1 {x : Int32} : zev xs L 114 1 ls (.int x :: st) h = zev xs L 114 2 ls (.long x.toInt64 :: st) h := zq_i2l (by decide +kernel : decode (zco 114) 1 = .ok (.i2l, 1))
theorem q114_2 : zev xs L 114 2 ls st h = zev xs L 114 3 ls (.long (lN 0) :: st) h := zq_lc (by decide +kernel : decode (zco 114) 2 = .ok (.lconst 0, 1)) rfl
theorem q114_3 {x : Nat} : zev xs L 114 3 [.ref x, v1] st h = zev xs L 114 4 [.ref x, v1] (.ref x :: st) h := zq_aln (by decide +kernel : decode (zco 114) 3 = .ok (.aload_n 0, 1)) rfl
theorem q114_4 {a : Nat} : zev xs L 114 4 ls (.ref a :: st) h = (zget h a 8 6).bind (fun v => zev xs L 114 7 ls (v :: st) h) := zq_gf (by decide +kernel : decode (zco 114) 4 = .ok (.getfield 23, 3)) (by decide +kernel)
theorem q114_7 : zev xs L 114 7 ls st h = zev xs L 114 8 ls (.int (nI 0) :: st) h := zq_ic (by decide +kernel : decode (zco 114) 7 = .ok (.iconst 0, 1)) rfl
theorem q114_8 {x : Int32} {a : Nat} : zev xs L 114 8 ls (.int x :: .ref a :: st) h = (zaldI h 20 a x).bind (fun x => zev xs L 114 9 ls (.int x :: st) h) := zq_ia (by decide +kernel : decode (zco 114) 8 = .ok (.iaload, 1))
theorem q114_9 : zev xs L 114 9 ls st h = zev xs L 114 10 ls (.int (nI 1) :: st) h := zq_ic (by decide +kernel : decode (zco 114) 9 = .ok (.iconst 1, 1)) rfl
theorem q114_10 {x y : Int32} : zev xs L 114 10 ls (.int y :: .int x :: st) h = zev xs L 114 11 ls (.int (x - y) :: st) h := zq_isub (by decide +kernel : decode (zco 114) 10 = .ok (.isub, 1))
theorem q114_11 {x : Int32} : zev xs L 114 11 ls (.int x :: st) h = zev xs L 114 12 ls (.long x.toInt64 :: st) h := zq_i2l (by decide +kernel : decode (zco 114) 11 = .ok (.i2l, 1))
theorem q114_12 {x0 : Int64} {x1 : Int64} {x2 : Int64} : zev xs L 114 12 ls [.long x2, .long x1, .long x0] h = (zev xs L 102 0 [.long x0, .null, .long x1, .null, .long x2, .null] [] h).bind (fun q => zev xs L 114 15 ls (q.1.toList ++ []) q.2) := zq_call (av := [.long x0, .long x1, .long x2]) (rest := []) (n := 3) (k := 6) (J := [0, 2, 4]) (i := .invokestatic 61) (by decide +kernel : decode (zco 114) 12 = .ok (.invokestatic 61, 3)) rfl (by decide +kernel) (by decide +kernel) (Nat.le_of_ble_eq_true rfl) rfl rfl rfl rfl (Or.inl rfl)
theorem q114_15 {x : Int32} : zev xs L 114 15 ls [.int x] h = if zbk x = true then some (some (.int x), h) else none := zq_rzi (by decide +kernel : decode (zco 114) 15 = .ok (.ireturn, 1)) (by decide +kernel)
end
/- X8_isKind -/
section
variable {xs : Nat → Int32} {L : Nat} {ls st : List Value} {h : ZH} {v0 v1 : Value} 
theorem q115_0 {x : Int32} : zev xs L 115 0 [v0, .int x] st h = zev xs L 115 1 [v0, .int x] (.int x :: st) h := zq_iln (by decide +kernel : decode (zco 115) 0 = .ok (.iload_n 1, 1)) rfl
theorem q115_1 {x : Int32} : zev xs L 115 1 ls (.int x :: st) h = zev xs L 115 2 ls (.long x.toInt64 :: st) h := zq_i2l (by decide +kernel : decode (zco 115) 1 = .ok (.i2l, 1))
theorem q115_2 : zev xs L 115 2 ls st h = zev xs L 115 3 ls (.long (lN 0) :: st) h := zq_lc (by decide +kernel : decode (zco 115) 2 = .ok (.lconst 0, 1)) rfl
theorem q115_3 {x : Nat} : zev xs L 115 3 [.ref x, v1] st h = zev xs L 115 4 [.ref x, v1] (.ref x :: st) h := zq_aln (by decide +kernel : decode (zco 115) 3 = .ok (.aload_n 0, 1)) rfl
theorem q115_4 {a : Nat} : zev xs L 115 4 ls (.ref a :: st) h = (zget h a 8 4).bind (fun v => zev xs L 115 7 ls (v :: st) h) := zq_gf (by decide +kernel : decode (zco 115) 4 = .ok (.getfield 17, 3)) (by decide +kernel)
theorem q115_7 : zev xs L 115 7 ls st h = zev xs L 115 8 ls (.int (nI 0) :: st) h := zq_ic (by decide +kernel : decode (zco 115) 7 = .ok (.iconst 0, 1)) rfl
theorem q115_8 {x : Int32} {a : Nat} : zev xs L 115 8 ls (.int x :: .ref a :: st) h = (zaldI h 20 a x).bind (fun x => zev xs L 115 9 ls (.int x :: st) h) := zq_ia (by decide +kernel : decode (zco 115) 8 = .ok (.iaload, 1))
theorem q115_9 : zev xs L 115 9 ls st h = zev xs L 115 10 ls (.int (nI 1) :: st) h := zq_ic (by decide +kernel : decode (zco 115) 9 = .ok (.iconst 1, 1)) rfl
theorem q115_10 {x y : Int32} : zev xs L 115 10 ls (.int y :: .int x :: st) h = zev xs L 115 11 ls (.int (x - y) :: st) h := zq_isub (by decide +kernel : decode (zco 115) 10 = .ok (.isub, 1))
theorem q115_11 {x : Int32} : zev xs L 115 11 ls (.int x :: st) h = zev xs L 115 12 ls (.long x.toInt64 :: st) h := zq_i2l (by decide +kernel : decode (zco 115) 11 = .ok (.i2l, 1))
theorem q115_12 {x0 : Int64} {x1 : Int64} {x2 : Int64} : zev xs L 115 12 ls [.long x2, .long x1, .long x0] h = (zev xs L 102 0 [.long x0, .null, .long x1, .null, .long x2, .null] [] h).bind (fun q => zev xs L 115 15 ls (q.1.toList ++ []) q.2) := zq_call (av := [.long x0, .long x1, .long x2]) (rest := []) (n := 3) (k := 6) (J := [0, 2, 4]) (i := .invokestatic 61) (by decide +kernel : decode (zco 115) 12 = .ok (.invokestatic 61, 3)) rfl (by decide +kernel) (by decide +kernel) (Nat.le_of_ble_eq_true rfl) rfl rfl rfl rfl (Or.inl rfl)
theorem q115_15 {x : Int32} : zev xs L 115 15 ls [.int x] h = if zbk x = true then some (some (.int x), h) else none := zq_rzi (by decide +kernel : decode (zco 115) 15 = .ok (.ireturn, 1)) (by decide +kernel)
end
/- X8_kindOf -/
section
variable {xs : Nat → Int32} {L : Nat} {ls st : List Value} {h : ZH} {v0 v1 v2 : Value} 
theorem q116_0 {x : Nat} : zev xs L 116 0 [.ref x, v1, v2] st h = zev xs L 116 1 [.ref x, v1, v2] (.ref x :: st) h := zq_aln (by decide +kernel : decode (zco 116) 0 = .ok (.aload_n 0, 1)) rfl
theorem q116_1 {a : Nat} : zev xs L 116 1 ls (.ref a :: st) h = (zget h a 8 9).bind (fun v => zev xs L 116 4 ls (v :: st) h) := zq_gf (by decide +kernel : decode (zco 116) 1 = .ok (.getfield 32, 3)) (by decide +kernel)
theorem q116_4 : zev xs L 116 4 ls st h = zev xs L 116 6 ls (.int (nI 61) :: st) h := zq_bi (by decide +kernel : decode (zco 116) 4 = .ok (.bipush 61, 2)) rfl
theorem q116_6 {x : Int32} : zev xs L 116 6 [v0, .int x, v2] st h = zev xs L 116 7 [v0, .int x, v2] (.int x :: st) h := zq_iln (by decide +kernel : decode (zco 116) 6 = .ok (.iload_n 1, 1)) rfl
theorem q116_7 {x y : Int32} : zev xs L 116 7 ls (.int y :: .int x :: st) h = zev xs L 116 8 ls (.int (x * y) :: st) h := zq_imul (by decide +kernel : decode (zco 116) 7 = .ok (.imul, 1))
theorem q116_8 : zev xs L 116 8 ls st h = zev xs L 116 10 ls (.int (nI 6) :: st) h := zq_bi (by decide +kernel : decode (zco 116) 8 = .ok (.bipush 6, 2)) rfl
theorem q116_10 {x y : Int32} : zev xs L 116 10 ls (.int y :: .int x :: st) h = zev xs L 116 11 ls (.int (x + y) :: st) h := zq_iadd (by decide +kernel : decode (zco 116) 10 = .ok (.iadd, 1))
theorem q116_11 {x : Nat} : zev xs L 116 11 [.ref x, v1, v2] st h = zev xs L 116 12 [.ref x, v1, v2] (.ref x :: st) h := zq_aln (by decide +kernel : decode (zco 116) 11 = .ok (.aload_n 0, 1)) rfl
theorem q116_12 {a : Nat} : zev xs L 116 12 ls (.ref a :: st) h = (zget h a 8 9).bind (fun v => zev xs L 116 15 ls (v :: st) h) := zq_gf (by decide +kernel : decode (zco 116) 12 = .ok (.getfield 32, 3)) (by decide +kernel)
theorem q116_15 : zev xs L 116 15 ls st h = zev xs L 116 17 ls (.int (nI 61) :: st) h := zq_bi (by decide +kernel : decode (zco 116) 15 = .ok (.bipush 61, 2)) rfl
theorem q116_17 {x : Int32} : zev xs L 116 17 [v0, .int x, v2] st h = zev xs L 116 18 [v0, .int x, v2] (.int x :: st) h := zq_iln (by decide +kernel : decode (zco 116) 17 = .ok (.iload_n 1, 1)) rfl
theorem q116_18 {x y : Int32} : zev xs L 116 18 ls (.int y :: .int x :: st) h = zev xs L 116 19 ls (.int (x * y) :: st) h := zq_imul (by decide +kernel : decode (zco 116) 18 = .ok (.imul, 1))
theorem q116_19 : zev xs L 116 19 ls st h = zev xs L 116 20 ls (.int (nI 0) :: st) h := zq_ic (by decide +kernel : decode (zco 116) 19 = .ok (.iconst 0, 1)) rfl
theorem q116_20 {x y : Int32} : zev xs L 116 20 ls (.int y :: .int x :: st) h = zev xs L 116 21 ls (.int (x + y) :: st) h := zq_iadd (by decide +kernel : decode (zco 116) 20 = .ok (.iadd, 1))
theorem q116_21 {x : Int32} : zev xs L 116 21 [v0, v1, .int x] st h = zev xs L 116 22 [v0, v1, .int x] (.int x :: st) h := zq_iln (by decide +kernel : decode (zco 116) 21 = .ok (.iload_n 2, 1)) rfl
theorem q116_22 {x y : Int32} : zev xs L 116 22 ls (.int y :: .int x :: st) h = zev xs L 116 23 ls (.int (x + y) :: st) h := zq_iadd (by decide +kernel : decode (zco 116) 22 = .ok (.iadd, 1))
theorem q116_23 {x : Int32} {a : Nat} : zev xs L 116 23 ls (.int x :: .ref a :: st) h = (zaldI h 20 a x).bind (fun x => zev xs L 116 24 ls (.int x :: st) h) := zq_ia (by decide +kernel : decode (zco 116) 23 = .ok (.iaload, 1))
theorem q116_24 {x y : Int32} : zev xs L 116 24 ls (.int y :: .int x :: st) h = zev xs L 116 25 ls (.int (x + y) :: st) h := zq_iadd (by decide +kernel : decode (zco 116) 24 = .ok (.iadd, 1))
theorem q116_25 {x : Int32} {a : Nat} : zev xs L 116 25 ls (.int x :: .ref a :: st) h = (zaldI h 20 a x).bind (fun x => zev xs L 116 26 ls (.int x :: st) h) := zq_ia (by decide +kernel : decode (zco 116) 25 = .ok (.iaload, 1))
theorem q116_26 {x : Int32} : zev xs L 116 26 ls [.int x] h = some (some (.int x), h) := zq_ri (by decide +kernel : decode (zco 116) 26 = .ok (.ireturn, 1)) (by decide +kernel)
end
/- X8_person -/
section
variable {xs : Nat → Int32} {L : Nat} {ls st : List Value} {h : ZH} {v0 v1 v2 : Value} 
theorem q117_0 {x : Nat} : zev xs L 117 0 [.ref x, v1, v2] st h = zev xs L 117 1 [.ref x, v1, v2] (.ref x :: st) h := zq_aln (by decide +kernel : decode (zco 117) 0 = .ok (.aload_n 0, 1)) rfl
theorem q117_1 {x : Int32} : zev xs L 117 1 [v0, .int x, v2] st h = zev xs L 117 2 [v0, .int x, v2] (.int x :: st) h := zq_iln (by decide +kernel : decode (zco 117) 1 = .ok (.iload_n 1, 1)) rfl
theorem q117_2 {a : Nat} {x0 : Int32} (ht : ztag h a = some 8) : zev xs L 117 2 ls [.int x0, .ref a] h = (zev xs L 114 0 [.ref a, .int x0] [] h).bind (fun q => zev xs L 117 5 ls (q.1.toList ++ []) q.2) := zq_call (av := [.ref a, .int x0]) (rest := []) (n := 2) (k := 2) (J := []) (i := .invokevirtual 114) (by decide +kernel : decode (zco 117) 2 = .ok (.invokevirtual 114, 3)) rfl (by decide +kernel) (by decide +kernel) (Nat.le_of_ble_eq_true rfl) rfl rfl rfl rfl (Or.inr (Or.inr ⟨_, _, rfl, Or.inr (Or.inr ⟨rfl, ht⟩)⟩))
theorem q117_5 {x : Int32} : zev xs L 117 5 ls (.int x :: st) h = if x = 0 then zev xs L 117 20 ls st h else zev xs L 117 8 ls st h := (zq_if (by decide +kernel : decode (zco 117) 5 = .ok (.ifCond .eq 15, 3)) (by decide +kernel)).trans (zdec rfl)
theorem q117_8 {x : Int32} : zev xs L 117 8 [v0, v1, .int x] st h = zev xs L 117 9 [v0, v1, .int x] (.int x :: st) h := zq_iln (by decide +kernel : decode (zco 117) 8 = .ok (.iload_n 2, 1)) rfl
theorem q117_9 {x : Int32} : zev xs L 117 9 ls (.int x :: st) h = zev xs L 117 10 ls (.long x.toInt64 :: st) h := zq_i2l (by decide +kernel : decode (zco 117) 9 = .ok (.i2l, 1))
theorem q117_10 : zev xs L 117 10 ls st h = zev xs L 117 11 ls (.long (lN 0) :: st) h := zq_lc (by decide +kernel : decode (zco 117) 10 = .ok (.lconst 0, 1)) rfl
theorem q117_11 : zev xs L 117 11 ls st h = zev xs L 117 14 ls (.long (lN 5) :: st) h := zq_k2 (by decide +kernel : decode (zco 117) 11 = .ok (.ldc2_w 117, 3)) (by decide +kernel)
theorem q117_14 {x0 : Int64} {x1 : Int64} {x2 : Int64} : zev xs L 117 14 ls [.long x2, .long x1, .long x0] h = (zev xs L 102 0 [.long x0, .null, .long x1, .null, .long x2, .null] [] h).bind (fun q => zev xs L 117 17 ls (q.1.toList ++ []) q.2) := zq_call (av := [.long x0, .long x1, .long x2]) (rest := []) (n := 3) (k := 6) (J := [0, 2, 4]) (i := .invokestatic 61) (by decide +kernel : decode (zco 117) 14 = .ok (.invokestatic 61, 3)) rfl (by decide +kernel) (by decide +kernel) (Nat.le_of_ble_eq_true rfl) rfl rfl rfl rfl (Or.inl rfl)
theorem q117_17 {x : Int32} : zev xs L 117 17 ls (.int x :: st) h = if x = 0 then zev xs L 117 20 ls st h else zev xs L 117 22 ls st h := (zq_if (by decide +kernel : decode (zco 117) 17 = .ok (.ifCond .ne 5, 3)) (by decide +kernel)).trans (zdecn rfl)
theorem q117_20 : zev xs L 117 20 ls st h = zev xs L 117 21 ls (.int ((-1)) :: st) h := zq_ic (by decide +kernel : decode (zco 117) 20 = .ok (.iconst (-1), 1)) rfl
theorem q117_21 {x : Int32} : zev xs L 117 21 ls [.int x] h = some (some (.int x), h) := zq_ri (by decide +kernel : decode (zco 117) 21 = .ok (.ireturn, 1)) (by decide +kernel)
theorem q117_22 {x : Int32} : zev xs L 117 22 [v0, v1, .int x] st h = zev xs L 117 23 [v0, v1, .int x] (.int x :: st) h := zq_iln (by decide +kernel : decode (zco 117) 22 = .ok (.iload_n 2, 1)) rfl
theorem q117_23_0 : zev xs L 117 23 ls (.int (nI 0) :: st) h = zev xs L 117 56 ls st h := zq_tab (by decide +kernel : decode (zco 117) 23 = .ok (.tableswitch 76 0 4 #[33, 40, 49, 56, 66], 33)) (off := 33) rfl (by decide +kernel)
theorem q117_23_1 : zev xs L 117 23 ls (.int (nI 1) :: st) h = zev xs L 117 63 ls st h := zq_tab (by decide +kernel : decode (zco 117) 23 = .ok (.tableswitch 76 0 4 #[33, 40, 49, 56, 66], 33)) (off := 40) rfl (by decide +kernel)
theorem q117_23_2 : zev xs L 117 23 ls (.int (nI 2) :: st) h = zev xs L 117 72 ls st h := zq_tab (by decide +kernel : decode (zco 117) 23 = .ok (.tableswitch 76 0 4 #[33, 40, 49, 56, 66], 33)) (off := 49) rfl (by decide +kernel)
theorem q117_23_3 : zev xs L 117 23 ls (.int (nI 3) :: st) h = zev xs L 117 79 ls st h := zq_tab (by decide +kernel : decode (zco 117) 23 = .ok (.tableswitch 76 0 4 #[33, 40, 49, 56, 66], 33)) (off := 56) rfl (by decide +kernel)
theorem q117_23_4 : zev xs L 117 23 ls (.int (nI 4) :: st) h = zev xs L 117 89 ls st h := zq_tab (by decide +kernel : decode (zco 117) 23 = .ok (.tableswitch 76 0 4 #[33, 40, 49, 56, 66], 33)) (off := 66) rfl (by decide +kernel)
theorem q117_23_d {x : Int32} (hx : x.toInt < 0 ∨ 4 < x.toInt) : zev xs L 117 23 ls (.int x :: st) h = zev xs L 117 99 ls st h := zq_tab (by decide +kernel : decode (zco 117) 23 = .ok (.tableswitch 76 0 4 #[33, 40, 49, 56, 66], 33)) (off := 76) (if_pos hx) (by decide +kernel)
theorem q117_56 {x : Nat} : zev xs L 117 56 [.ref x, v1, v2] st h = zev xs L 117 57 [.ref x, v1, v2] (.ref x :: st) h := zq_aln (by decide +kernel : decode (zco 117) 56 = .ok (.aload_n 0, 1)) rfl
theorem q117_57 {a : Nat} : zev xs L 117 57 ls (.ref a :: st) h = (zget h a 8 7).bind (fun v => zev xs L 117 60 ls (v :: st) h) := zq_gf (by decide +kernel : decode (zco 117) 57 = .ok (.getfield 26, 3)) (by decide +kernel)
theorem q117_60 {x : Int32} : zev xs L 117 60 [v0, .int x, v2] st h = zev xs L 117 61 [v0, .int x, v2] (.int x :: st) h := zq_iln (by decide +kernel : decode (zco 117) 60 = .ok (.iload_n 1, 1)) rfl
theorem q117_61 {x : Int32} {a : Nat} : zev xs L 117 61 ls (.int x :: .ref a :: st) h = (zaldI h 20 a x).bind (fun x => zev xs L 117 62 ls (.int x :: st) h) := zq_ia (by decide +kernel : decode (zco 117) 61 = .ok (.iaload, 1))
theorem q117_62 {x : Int32} : zev xs L 117 62 ls [.int x] h = some (some (.int x), h) := zq_ri (by decide +kernel : decode (zco 117) 62 = .ok (.ireturn, 1)) (by decide +kernel)
theorem q117_63 {x : Nat} : zev xs L 117 63 [.ref x, v1, v2] st h = zev xs L 117 64 [.ref x, v1, v2] (.ref x :: st) h := zq_aln (by decide +kernel : decode (zco 117) 63 = .ok (.aload_n 0, 1)) rfl
theorem q117_64 {a : Nat} : zev xs L 117 64 ls (.ref a :: st) h = (zget h a 8 9).bind (fun v => zev xs L 117 67 ls (v :: st) h) := zq_gf (by decide +kernel : decode (zco 117) 64 = .ok (.getfield 32, 3)) (by decide +kernel)
theorem q117_67 : zev xs L 117 67 ls st h = zev xs L 117 68 ls (.int (nI 0) :: st) h := zq_ic (by decide +kernel : decode (zco 117) 67 = .ok (.iconst 0, 1)) rfl
theorem q117_68 {x : Int32} : zev xs L 117 68 [v0, .int x, v2] st h = zev xs L 117 69 [v0, .int x, v2] (.int x :: st) h := zq_iln (by decide +kernel : decode (zco 117) 68 = .ok (.iload_n 1, 1)) rfl
theorem q117_69 {x y : Int32} : zev xs L 117 69 ls (.int y :: .int x :: st) h = zev xs L 117 70 ls (.int (x + y) :: st) h := zq_iadd (by decide +kernel : decode (zco 117) 69 = .ok (.iadd, 1))
theorem q117_70 {x : Int32} {a : Nat} : zev xs L 117 70 ls (.int x :: .ref a :: st) h = (zaldI h 20 a x).bind (fun x => zev xs L 117 71 ls (.int x :: st) h) := zq_ia (by decide +kernel : decode (zco 117) 70 = .ok (.iaload, 1))
theorem q117_71 {x : Int32} : zev xs L 117 71 ls [.int x] h = some (some (.int x), h) := zq_ri (by decide +kernel : decode (zco 117) 71 = .ok (.ireturn, 1)) (by decide +kernel)
theorem q117_72 {x : Nat} : zev xs L 117 72 [.ref x, v1, v2] st h = zev xs L 117 73 [.ref x, v1, v2] (.ref x :: st) h := zq_aln (by decide +kernel : decode (zco 117) 72 = .ok (.aload_n 0, 1)) rfl
theorem q117_73 : zev xs L 117 73 ls st h = zev xs L 117 74 ls (.int (nI 0) :: st) h := zq_ic (by decide +kernel : decode (zco 117) 73 = .ok (.iconst 0, 1)) rfl
theorem q117_74 {x : Int32} : zev xs L 117 74 [v0, .int x, v2] st h = zev xs L 117 75 [v0, .int x, v2] (.int x :: st) h := zq_iln (by decide +kernel : decode (zco 117) 74 = .ok (.iload_n 1, 1)) rfl
theorem q117_75 {a : Nat} {x0 : Int32} {x1 : Int32} (ht : ztag h a = some 8) : zev xs L 117 75 ls [.int x1, .int x0, .ref a] h = (zev xs L 116 0 [.ref a, .int x0, .int x1] [] h).bind (fun q => zev xs L 117 78 ls (q.1.toList ++ []) q.2) := zq_call (av := [.ref a, .int x0, .int x1]) (rest := []) (n := 3) (k := 3) (J := []) (i := .invokevirtual 119) (by decide +kernel : decode (zco 117) 75 = .ok (.invokevirtual 119, 3)) rfl (by decide +kernel) (by decide +kernel) (Nat.le_of_ble_eq_true rfl) rfl rfl rfl rfl (Or.inr (Or.inr ⟨_, _, rfl, Or.inr (Or.inr ⟨rfl, ht⟩)⟩))
theorem q117_78 {x : Int32} : zev xs L 117 78 ls [.int x] h = some (some (.int x), h) := zq_ri (by decide +kernel : decode (zco 117) 78 = .ok (.ireturn, 1)) (by decide +kernel)
theorem q117_79 {x : Nat} : zev xs L 117 79 [.ref x, v1, v2] st h = zev xs L 117 80 [.ref x, v1, v2] (.ref x :: st) h := zq_aln (by decide +kernel : decode (zco 117) 79 = .ok (.aload_n 0, 1)) rfl
theorem q117_80 {a : Nat} : zev xs L 117 80 ls (.ref a :: st) h = (zget h a 8 9).bind (fun v => zev xs L 117 83 ls (v :: st) h) := zq_gf (by decide +kernel : decode (zco 117) 80 = .ok (.getfield 32, 3)) (by decide +kernel)
theorem q117_83 : zev xs L 117 83 ls st h = zev xs L 117 85 ls (.int (nI 18) :: st) h := zq_bi (by decide +kernel : decode (zco 117) 83 = .ok (.bipush 18, 2)) rfl
theorem q117_85 {x : Int32} : zev xs L 117 85 [v0, .int x, v2] st h = zev xs L 117 86 [v0, .int x, v2] (.int x :: st) h := zq_iln (by decide +kernel : decode (zco 117) 85 = .ok (.iload_n 1, 1)) rfl
theorem q117_86 {x y : Int32} : zev xs L 117 86 ls (.int y :: .int x :: st) h = zev xs L 117 87 ls (.int (x + y) :: st) h := zq_iadd (by decide +kernel : decode (zco 117) 86 = .ok (.iadd, 1))
theorem q117_87 {x : Int32} {a : Nat} : zev xs L 117 87 ls (.int x :: .ref a :: st) h = (zaldI h 20 a x).bind (fun x => zev xs L 117 88 ls (.int x :: st) h) := zq_ia (by decide +kernel : decode (zco 117) 87 = .ok (.iaload, 1))
theorem q117_88 {x : Int32} : zev xs L 117 88 ls [.int x] h = some (some (.int x), h) := zq_ri (by decide +kernel : decode (zco 117) 88 = .ok (.ireturn, 1)) (by decide +kernel)
theorem q117_89 {x : Nat} : zev xs L 117 89 [.ref x, v1, v2] st h = zev xs L 117 90 [.ref x, v1, v2] (.ref x :: st) h := zq_aln (by decide +kernel : decode (zco 117) 89 = .ok (.aload_n 0, 1)) rfl
theorem q117_90 {a : Nat} : zev xs L 117 90 ls (.ref a :: st) h = (zget h a 8 9).bind (fun v => zev xs L 117 93 ls (v :: st) h) := zq_gf (by decide +kernel : decode (zco 117) 90 = .ok (.getfield 32, 3)) (by decide +kernel)
theorem q117_93 : zev xs L 117 93 ls st h = zev xs L 117 95 ls (.int (nI 24) :: st) h := zq_bi (by decide +kernel : decode (zco 117) 93 = .ok (.bipush 24, 2)) rfl
theorem q117_95 {x : Int32} : zev xs L 117 95 [v0, .int x, v2] st h = zev xs L 117 96 [v0, .int x, v2] (.int x :: st) h := zq_iln (by decide +kernel : decode (zco 117) 95 = .ok (.iload_n 1, 1)) rfl
theorem q117_96 {x y : Int32} : zev xs L 117 96 ls (.int y :: .int x :: st) h = zev xs L 117 97 ls (.int (x + y) :: st) h := zq_iadd (by decide +kernel : decode (zco 117) 96 = .ok (.iadd, 1))
theorem q117_97 {x : Int32} {a : Nat} : zev xs L 117 97 ls (.int x :: .ref a :: st) h = (zaldI h 20 a x).bind (fun x => zev xs L 117 98 ls (.int x :: st) h) := zq_ia (by decide +kernel : decode (zco 117) 97 = .ok (.iaload, 1))
theorem q117_98 {x : Int32} : zev xs L 117 98 ls [.int x] h = some (some (.int x), h) := zq_ri (by decide +kernel : decode (zco 117) 98 = .ok (.ireturn, 1)) (by decide +kernel)
theorem q117_99 {x : Nat} : zev xs L 117 99 [.ref x, v1, v2] st h = zev xs L 117 100 [.ref x, v1, v2] (.ref x :: st) h := zq_aln (by decide +kernel : decode (zco 117) 99 = .ok (.aload_n 0, 1)) rfl
theorem q117_100 {a : Nat} : zev xs L 117 100 ls (.ref a :: st) h = (zget h a 8 9).bind (fun v => zev xs L 117 103 ls (v :: st) h) := zq_gf (by decide +kernel : decode (zco 117) 100 = .ok (.getfield 32, 3)) (by decide +kernel)
theorem q117_103 : zev xs L 117 103 ls st h = zev xs L 117 105 ls (.int (nI 12) :: st) h := zq_bi (by decide +kernel : decode (zco 117) 103 = .ok (.bipush 12, 2)) rfl
theorem q117_105 {x : Int32} : zev xs L 117 105 [v0, .int x, v2] st h = zev xs L 117 106 [v0, .int x, v2] (.int x :: st) h := zq_iln (by decide +kernel : decode (zco 117) 105 = .ok (.iload_n 1, 1)) rfl
theorem q117_106 {x y : Int32} : zev xs L 117 106 ls (.int y :: .int x :: st) h = zev xs L 117 107 ls (.int (x + y) :: st) h := zq_iadd (by decide +kernel : decode (zco 117) 106 = .ok (.iadd, 1))
theorem q117_107 {x : Int32} {a : Nat} : zev xs L 117 107 ls (.int x :: .ref a :: st) h = (zaldI h 20 a x).bind (fun x => zev xs L 117 108 ls (.int x :: st) h) := zq_ia (by decide +kernel : decode (zco 117) 107 = .ok (.iaload, 1))
theorem q117_108 {x : Int32} : zev xs L 117 108 ls [.int x] h = some (some (.int x), h) := zq_ri (by decide +kernel : decode (zco 117) 108 = .ok (.ireturn, 1)) (by decide +kernel)
end
/- X8_had -/
section
variable {xs : Nat → Int32} {L : Nat} {ls st : List Value} {h : ZH} {v0 v1 v2 : Value} 
theorem q118_0 {x : Nat} : zev xs L 118 0 [.ref x, v1, v2] st h = zev xs L 118 1 [.ref x, v1, v2] (.ref x :: st) h := zq_aln (by decide +kernel : decode (zco 118) 0 = .ok (.aload_n 0, 1)) rfl
theorem q118_1 {x : Int32} : zev xs L 118 1 [v0, .int x, v2] st h = zev xs L 118 2 [v0, .int x, v2] (.int x :: st) h := zq_iln (by decide +kernel : decode (zco 118) 1 = .ok (.iload_n 1, 1)) rfl
theorem q118_2 {a : Nat} {x0 : Int32} (ht : ztag h a = some 8) : zev xs L 118 2 ls [.int x0, .ref a] h = (zev xs L 114 0 [.ref a, .int x0] [] h).bind (fun q => zev xs L 118 5 ls (q.1.toList ++ []) q.2) := zq_call (av := [.ref a, .int x0]) (rest := []) (n := 2) (k := 2) (J := []) (i := .invokevirtual 114) (by decide +kernel : decode (zco 118) 2 = .ok (.invokevirtual 114, 3)) rfl (by decide +kernel) (by decide +kernel) (Nat.le_of_ble_eq_true rfl) rfl rfl rfl rfl (Or.inr (Or.inr ⟨_, _, rfl, Or.inr (Or.inr ⟨rfl, ht⟩)⟩))
theorem q118_5 {x : Int32} : zev xs L 118 5 ls (.int x :: st) h = if x = 0 then zev xs L 118 32 ls st h else zev xs L 118 8 ls st h := (zq_if (by decide +kernel : decode (zco 118) 5 = .ok (.ifCond .eq 27, 3)) (by decide +kernel)).trans (zdec rfl)
theorem q118_8 {x : Nat} : zev xs L 118 8 [.ref x, v1, v2] st h = zev xs L 118 9 [.ref x, v1, v2] (.ref x :: st) h := zq_aln (by decide +kernel : decode (zco 118) 8 = .ok (.aload_n 0, 1)) rfl
theorem q118_9 {x : Int32} : zev xs L 118 9 [v0, v1, .int x] st h = zev xs L 118 10 [v0, v1, .int x] (.int x :: st) h := zq_iln (by decide +kernel : decode (zco 118) 9 = .ok (.iload_n 2, 1)) rfl
theorem q118_10 {a : Nat} {x0 : Int32} (ht : ztag h a = some 8) : zev xs L 118 10 ls [.int x0, .ref a] h = (zev xs L 115 0 [.ref a, .int x0] [] h).bind (fun q => zev xs L 118 13 ls (q.1.toList ++ []) q.2) := zq_call (av := [.ref a, .int x0]) (rest := []) (n := 2) (k := 2) (J := []) (i := .invokevirtual 123) (by decide +kernel : decode (zco 118) 10 = .ok (.invokevirtual 123, 3)) rfl (by decide +kernel) (by decide +kernel) (Nat.le_of_ble_eq_true rfl) rfl rfl rfl rfl (Or.inr (Or.inr ⟨_, _, rfl, Or.inr (Or.inr ⟨rfl, ht⟩)⟩))
theorem q118_13 {x : Int32} : zev xs L 118 13 ls (.int x :: st) h = if x = 0 then zev xs L 118 32 ls st h else zev xs L 118 16 ls st h := (zq_if (by decide +kernel : decode (zco 118) 13 = .ok (.ifCond .eq 19, 3)) (by decide +kernel)).trans (zdec rfl)
theorem q118_16 {x : Nat} : zev xs L 118 16 [.ref x, v1, v2] st h = zev xs L 118 17 [.ref x, v1, v2] (.ref x :: st) h := zq_aln (by decide +kernel : decode (zco 118) 16 = .ok (.aload_n 0, 1)) rfl
theorem q118_17 {a : Nat} : zev xs L 118 17 ls (.ref a :: st) h = (zget h a 8 9).bind (fun v => zev xs L 118 20 ls (v :: st) h) := zq_gf (by decide +kernel : decode (zco 118) 17 = .ok (.getfield 32, 3)) (by decide +kernel)
theorem q118_20 : zev xs L 118 20 ls st h = zev xs L 118 22 ls (.int (nI 30) :: st) h := zq_bi (by decide +kernel : decode (zco 118) 20 = .ok (.bipush 30, 2)) rfl
theorem q118_22 : zev xs L 118 22 ls st h = zev xs L 118 23 ls (.int (nI 5) :: st) h := zq_ic (by decide +kernel : decode (zco 118) 22 = .ok (.iconst 5, 1)) rfl
theorem q118_23 {x : Int32} : zev xs L 118 23 [v0, .int x, v2] st h = zev xs L 118 24 [v0, .int x, v2] (.int x :: st) h := zq_iln (by decide +kernel : decode (zco 118) 23 = .ok (.iload_n 1, 1)) rfl
theorem q118_24 {x y : Int32} : zev xs L 118 24 ls (.int y :: .int x :: st) h = zev xs L 118 25 ls (.int (x * y) :: st) h := zq_imul (by decide +kernel : decode (zco 118) 24 = .ok (.imul, 1))
theorem q118_25 {x y : Int32} : zev xs L 118 25 ls (.int y :: .int x :: st) h = zev xs L 118 26 ls (.int (x + y) :: st) h := zq_iadd (by decide +kernel : decode (zco 118) 25 = .ok (.iadd, 1))
theorem q118_26 {x : Int32} : zev xs L 118 26 [v0, v1, .int x] st h = zev xs L 118 27 [v0, v1, .int x] (.int x :: st) h := zq_iln (by decide +kernel : decode (zco 118) 26 = .ok (.iload_n 2, 1)) rfl
theorem q118_27 {x y : Int32} : zev xs L 118 27 ls (.int y :: .int x :: st) h = zev xs L 118 28 ls (.int (x + y) :: st) h := zq_iadd (by decide +kernel : decode (zco 118) 27 = .ok (.iadd, 1))
theorem q118_28 {x : Int32} {a : Nat} : zev xs L 118 28 ls (.int x :: .ref a :: st) h = (zaldI h 20 a x).bind (fun x => zev xs L 118 29 ls (.int x :: st) h) := zq_ia (by decide +kernel : decode (zco 118) 28 = .ok (.iaload, 1))
theorem q118_29 : zev xs L 118 29 ls st h = zev xs L 118 33 ls st h := zq_go (by decide +kernel : decode (zco 118) 29 = .ok (.goto 4, 3)) (by decide +kernel)
theorem q118_32 : zev xs L 118 32 ls st h = zev xs L 118 33 ls (.int ((-1)) :: st) h := zq_ic (by decide +kernel : decode (zco 118) 32 = .ok (.iconst (-1), 1)) rfl
theorem q118_33 {x : Int32} : zev xs L 118 33 ls [.int x] h = some (some (.int x), h) := zq_ri (by decide +kernel : decode (zco 118) 33 = .ok (.ireturn, 1)) (by decide +kernel)
end
/- X8_mask -/
section
variable {xs : Nat → Int32} {L : Nat} {ls st : List Value} {h : ZH} {v0 v1 v2 v3 : Value} 
theorem q119_0 {x : Nat} : zev xs L 119 0 [.ref x, v1, v2, v3] st h = zev xs L 119 1 [.ref x, v1, v2, v3] (.ref x :: st) h := zq_aln (by decide +kernel : decode (zco 119) 0 = .ok (.aload_n 0, 1)) rfl
theorem q119_1 {x : Int32} : zev xs L 119 1 [v0, .int x, v2, v3] st h = zev xs L 119 2 [v0, .int x, v2, v3] (.int x :: st) h := zq_iln (by decide +kernel : decode (zco 119) 1 = .ok (.iload_n 1, 1)) rfl
theorem q119_2 {a : Nat} {x0 : Int32} (ht : ztag h a = some 8) : zev xs L 119 2 ls [.int x0, .ref a] h = (zev xs L 114 0 [.ref a, .int x0] [] h).bind (fun q => zev xs L 119 5 ls (q.1.toList ++ []) q.2) := zq_call (av := [.ref a, .int x0]) (rest := []) (n := 2) (k := 2) (J := []) (i := .invokevirtual 114) (by decide +kernel : decode (zco 119) 2 = .ok (.invokevirtual 114, 3)) rfl (by decide +kernel) (by decide +kernel) (Nat.le_of_ble_eq_true rfl) rfl rfl rfl rfl (Or.inr (Or.inr ⟨_, _, rfl, Or.inr (Or.inr ⟨rfl, ht⟩)⟩))
theorem q119_5 {x : Int32} : zev xs L 119 5 ls (.int x :: st) h = if x = 0 then zev xs L 119 20 ls st h else zev xs L 119 8 ls st h := (zq_if (by decide +kernel : decode (zco 119) 5 = .ok (.ifCond .eq 15, 3)) (by decide +kernel)).trans (zdec rfl)
theorem q119_8 {x : Int32} : zev xs L 119 8 [v0, v1, .int x, v3] st h = zev xs L 119 9 [v0, v1, .int x, v3] (.int x :: st) h := zq_iln (by decide +kernel : decode (zco 119) 8 = .ok (.iload_n 2, 1)) rfl
theorem q119_9 {x : Int32} : zev xs L 119 9 ls (.int x :: st) h = zev xs L 119 10 ls (.long x.toInt64 :: st) h := zq_i2l (by decide +kernel : decode (zco 119) 9 = .ok (.i2l, 1))
theorem q119_10 : zev xs L 119 10 ls st h = zev xs L 119 11 ls (.long (lN 0) :: st) h := zq_lc (by decide +kernel : decode (zco 119) 10 = .ok (.lconst 0, 1)) rfl
theorem q119_11 : zev xs L 119 11 ls st h = zev xs L 119 14 ls (.long (lN 2) :: st) h := zq_k2 (by decide +kernel : decode (zco 119) 11 = .ok (.ldc2_w 126, 3)) (by decide +kernel)
theorem q119_14 {x0 : Int64} {x1 : Int64} {x2 : Int64} : zev xs L 119 14 ls [.long x2, .long x1, .long x0] h = (zev xs L 102 0 [.long x0, .null, .long x1, .null, .long x2, .null] [] h).bind (fun q => zev xs L 119 17 ls (q.1.toList ++ []) q.2) := zq_call (av := [.long x0, .long x1, .long x2]) (rest := []) (n := 3) (k := 6) (J := [0, 2, 4]) (i := .invokestatic 61) (by decide +kernel : decode (zco 119) 14 = .ok (.invokestatic 61, 3)) rfl (by decide +kernel) (by decide +kernel) (Nat.le_of_ble_eq_true rfl) rfl rfl rfl rfl (Or.inl rfl)
theorem q119_17 {x : Int32} : zev xs L 119 17 ls (.int x :: st) h = if x = 0 then zev xs L 119 20 ls st h else zev xs L 119 22 ls st h := (zq_if (by decide +kernel : decode (zco 119) 17 = .ok (.ifCond .ne 5, 3)) (by decide +kernel)).trans (zdecn rfl)
theorem q119_20 : zev xs L 119 20 ls st h = zev xs L 119 21 ls (.int ((-1)) :: st) h := zq_ic (by decide +kernel : decode (zco 119) 20 = .ok (.iconst (-1), 1)) rfl
theorem q119_21 {x : Int32} : zev xs L 119 21 ls [.int x] h = some (some (.int x), h) := zq_ri (by decide +kernel : decode (zco 119) 21 = .ok (.ireturn, 1)) (by decide +kernel)
theorem q119_22 {x : Nat} : zev xs L 119 22 [.ref x, v1, v2, v3] st h = zev xs L 119 23 [.ref x, v1, v2, v3] (.ref x :: st) h := zq_aln (by decide +kernel : decode (zco 119) 22 = .ok (.aload_n 0, 1)) rfl
theorem q119_23 {a : Nat} : zev xs L 119 23 ls (.ref a :: st) h = (zget h a 8 9).bind (fun v => zev xs L 119 26 ls (v :: st) h) := zq_gf (by decide +kernel : decode (zco 119) 23 = .ok (.getfield 32, 3)) (by decide +kernel)
theorem q119_26 : zev xs L 119 26 ls st h = zev xs L 119 28 ls (.int (nI 6) :: st) h := zq_bi (by decide +kernel : decode (zco 119) 26 = .ok (.bipush 6, 2)) rfl
theorem q119_28 {x : Int32} : zev xs L 119 28 [v0, .int x, v2, v3] st h = zev xs L 119 29 [v0, .int x, v2, v3] (.int x :: st) h := zq_iln (by decide +kernel : decode (zco 119) 28 = .ok (.iload_n 1, 1)) rfl
theorem q119_29 {x y : Int32} : zev xs L 119 29 ls (.int y :: .int x :: st) h = zev xs L 119 30 ls (.int (x + y) :: st) h := zq_iadd (by decide +kernel : decode (zco 119) 29 = .ok (.iadd, 1))
theorem q119_30 {x : Int32} {a : Nat} : zev xs L 119 30 ls (.int x :: .ref a :: st) h = (zaldI h 20 a x).bind (fun x => zev xs L 119 31 ls (.int x :: st) h) := zq_ia (by decide +kernel : decode (zco 119) 30 = .ok (.iaload, 1))
theorem q119_31 {x : Int32} : zev xs L 119 31 [v0, v1, v2, v3] (.int x :: st) h = zev xs L 119 32 [v0, v1, v2, .int x] st h := zq_isn (by decide +kernel : decode (zco 119) 31 = .ok (.istore_n 3, 1)) (by decide +kernel) rfl
theorem q119_32 {x : Int32} : zev xs L 119 32 [v0, v1, .int x, v3] st h = zev xs L 119 33 [v0, v1, .int x, v3] (.int x :: st) h := zq_iln (by decide +kernel : decode (zco 119) 32 = .ok (.iload_n 2, 1)) rfl
theorem q119_33 {x : Int32} : zev xs L 119 33 ls (.int x :: st) h = if x = 0 then zev xs L 119 36 ls st h else zev xs L 119 40 ls st h := (zq_if (by decide +kernel : decode (zco 119) 33 = .ok (.ifCond .ne 7, 3)) (by decide +kernel)).trans (zdecn rfl)
theorem q119_36 {x : Int32} : zev xs L 119 36 [v0, v1, v2, .int x] st h = zev xs L 119 37 [v0, v1, v2, .int x] (.int x :: st) h := zq_iln (by decide +kernel : decode (zco 119) 36 = .ok (.iload_n 3, 1)) rfl
theorem q119_37 : zev xs L 119 37 ls st h = zev xs L 119 66 ls st h := zq_go (by decide +kernel : decode (zco 119) 37 = .ok (.goto 29, 3)) (by decide +kernel)
theorem q119_40 {x : Int32} : zev xs L 119 40 [v0, v1, .int x, v3] st h = zev xs L 119 41 [v0, v1, .int x, v3] (.int x :: st) h := zq_iln (by decide +kernel : decode (zco 119) 40 = .ok (.iload_n 2, 1)) rfl
theorem q119_41 : zev xs L 119 41 ls st h = zev xs L 119 42 ls (.int (nI 1) :: st) h := zq_ic (by decide +kernel : decode (zco 119) 41 = .ok (.iconst 1, 1)) rfl
theorem q119_42 {x y : Int32} : zev xs L 119 42 ls (.int y :: .int x :: st) h = if x = y then zev xs L 119 45 ls st h else zev xs L 119 58 ls st h := (zq_ic2 (by decide +kernel : decode (zco 119) 42 = .ok (.if_icmp .ne 16, 3)) (by decide +kernel)).trans (zdecn rfl)
theorem q119_45 {x : Nat} : zev xs L 119 45 [.ref x, v1, v2, v3] st h = zev xs L 119 46 [.ref x, v1, v2, v3] (.ref x :: st) h := zq_aln (by decide +kernel : decode (zco 119) 45 = .ok (.aload_n 0, 1)) rfl
theorem q119_46 {a : Nat} : zev xs L 119 46 ls (.ref a :: st) h = (zget h a 8 5).bind (fun v => zev xs L 119 49 ls (v :: st) h) := zq_gf (by decide +kernel : decode (zco 119) 46 = .ok (.getfield 20, 3)) (by decide +kernel)
theorem q119_49 : zev xs L 119 49 ls st h = zev xs L 119 50 ls (.int (nI 3) :: st) h := zq_ic (by decide +kernel : decode (zco 119) 49 = .ok (.iconst 3, 1)) rfl
theorem q119_50 {x : Int32} : zev xs L 119 50 [v0, v1, v2, .int x] st h = zev xs L 119 51 [v0, v1, v2, .int x] (.int x :: st) h := zq_iln (by decide +kernel : decode (zco 119) 50 = .ok (.iload_n 3, 1)) rfl
theorem q119_51 {x y : Int32} : zev xs L 119 51 ls (.int y :: .int x :: st) h = zev xs L 119 52 ls (.int (x * y) :: st) h := zq_imul (by decide +kernel : decode (zco 119) 51 = .ok (.imul, 1))
theorem q119_52 : zev xs L 119 52 ls st h = zev xs L 119 53 ls (.int (nI 1) :: st) h := zq_ic (by decide +kernel : decode (zco 119) 52 = .ok (.iconst 1, 1)) rfl
theorem q119_53 {x y : Int32} : zev xs L 119 53 ls (.int y :: .int x :: st) h = zev xs L 119 54 ls (.int (x + y) :: st) h := zq_iadd (by decide +kernel : decode (zco 119) 53 = .ok (.iadd, 1))
theorem q119_54 {x : Int32} {a : Nat} : zev xs L 119 54 ls (.int x :: .ref a :: st) h = (zaldI h 20 a x).bind (fun x => zev xs L 119 55 ls (.int x :: st) h) := zq_ia (by decide +kernel : decode (zco 119) 54 = .ok (.iaload, 1))
theorem q119_55 : zev xs L 119 55 ls st h = zev xs L 119 66 ls st h := zq_go (by decide +kernel : decode (zco 119) 55 = .ok (.goto 11, 3)) (by decide +kernel)
theorem q119_58 {x : Nat} : zev xs L 119 58 [.ref x, v1, v2, v3] st h = zev xs L 119 59 [.ref x, v1, v2, v3] (.ref x :: st) h := zq_aln (by decide +kernel : decode (zco 119) 58 = .ok (.aload_n 0, 1)) rfl
theorem q119_59 {a : Nat} : zev xs L 119 59 ls (.ref a :: st) h = (zget h a 8 5).bind (fun v => zev xs L 119 62 ls (v :: st) h) := zq_gf (by decide +kernel : decode (zco 119) 59 = .ok (.getfield 20, 3)) (by decide +kernel)
theorem q119_62 : zev xs L 119 62 ls st h = zev xs L 119 63 ls (.int (nI 3) :: st) h := zq_ic (by decide +kernel : decode (zco 119) 62 = .ok (.iconst 3, 1)) rfl
theorem q119_63 {x : Int32} : zev xs L 119 63 [v0, v1, v2, .int x] st h = zev xs L 119 64 [v0, v1, v2, .int x] (.int x :: st) h := zq_iln (by decide +kernel : decode (zco 119) 63 = .ok (.iload_n 3, 1)) rfl
theorem q119_64 {x y : Int32} : zev xs L 119 64 ls (.int y :: .int x :: st) h = zev xs L 119 65 ls (.int (x * y) :: st) h := zq_imul (by decide +kernel : decode (zco 119) 64 = .ok (.imul, 1))
theorem q119_65 {x : Int32} {a : Nat} : zev xs L 119 65 ls (.int x :: .ref a :: st) h = (zaldI h 20 a x).bind (fun x => zev xs L 119 66 ls (.int x :: st) h) := zq_ia (by decide +kernel : decode (zco 119) 65 = .ok (.iaload, 1))
theorem q119_66 {x : Int32} : zev xs L 119 66 ls [.int x] h = some (some (.int x), h) := zq_ri (by decide +kernel : decode (zco 119) 66 = .ok (.ireturn, 1)) (by decide +kernel)
end
/- X8_copies -/
section
variable {xs : Nat → Int32} {L : Nat} {ls st : List Value} {h : ZH} {v0 v1 v2 v3 : Value} 
theorem q120_0 : zev xs L 120 0 ls st h = zev xs L 120 1 ls (.int (nI 0) :: st) h := zq_ic (by decide +kernel : decode (zco 120) 0 = .ok (.iconst 0, 1)) rfl
theorem q120_1 {x : Int32} : zev xs L 120 1 [v0, v1, v2, v3] (.int x :: st) h = zev xs L 120 2 [v0, v1, v2, .int x] st h := zq_isn (by decide +kernel : decode (zco 120) 1 = .ok (.istore_n 3, 1)) (by decide +kernel) rfl
theorem q120_2 {x : Int32} : zev xs L 120 2 [v0, v1, v2, .int x] st h = zev xs L 120 3 [v0, v1, v2, .int x] (.int x :: st) h := zq_iln (by decide +kernel : decode (zco 120) 2 = .ok (.iload_n 3, 1)) rfl
theorem q120_3 : zev xs L 120 3 ls st h = zev xs L 120 5 ls (.int (nI 61) :: st) h := zq_bi (by decide +kernel : decode (zco 120) 3 = .ok (.bipush 61, 2)) rfl
theorem q120_5 {x y : Int32} : zev xs L 120 5 ls (.int y :: .int x :: st) h = if x < y then zev xs L 120 8 ls st h else zev xs L 120 36 ls st h := (zq_ic2 (by decide +kernel : decode (zco 120) 5 = .ok (.if_icmp .ge 31, 3)) (by decide +kernel)).trans (zdge)
theorem q120_8 {x : Nat} : zev xs L 120 8 [.ref x, v1, v2, v3] st h = zev xs L 120 9 [.ref x, v1, v2, v3] (.ref x :: st) h := zq_aln (by decide +kernel : decode (zco 120) 8 = .ok (.aload_n 0, 1)) rfl
theorem q120_9 {a : Nat} : zev xs L 120 9 ls (.ref a :: st) h = (zget h a 8 9).bind (fun v => zev xs L 120 12 ls (v :: st) h) := zq_gf (by decide +kernel : decode (zco 120) 9 = .ok (.getfield 32, 3)) (by decide +kernel)
theorem q120_12 : zev xs L 120 12 ls st h = zev xs L 120 14 ls (.int (nI 61) :: st) h := zq_bi (by decide +kernel : decode (zco 120) 12 = .ok (.bipush 61, 2)) rfl
theorem q120_14 {x : Int32} : zev xs L 120 14 [v0, v1, .int x, v3] st h = zev xs L 120 15 [v0, v1, .int x, v3] (.int x :: st) h := zq_iln (by decide +kernel : decode (zco 120) 14 = .ok (.iload_n 2, 1)) rfl
theorem q120_15 {x y : Int32} : zev xs L 120 15 ls (.int y :: .int x :: st) h = zev xs L 120 16 ls (.int (x * y) :: st) h := zq_imul (by decide +kernel : decode (zco 120) 15 = .ok (.imul, 1))
theorem q120_16 {x : Int32} : zev xs L 120 16 [v0, v1, v2, .int x] st h = zev xs L 120 17 [v0, v1, v2, .int x] (.int x :: st) h := zq_iln (by decide +kernel : decode (zco 120) 16 = .ok (.iload_n 3, 1)) rfl
theorem q120_17 {x y : Int32} : zev xs L 120 17 ls (.int y :: .int x :: st) h = zev xs L 120 18 ls (.int (x + y) :: st) h := zq_iadd (by decide +kernel : decode (zco 120) 17 = .ok (.iadd, 1))
theorem q120_18 {x : Nat} : zev xs L 120 18 [.ref x, v1, v2, v3] st h = zev xs L 120 19 [.ref x, v1, v2, v3] (.ref x :: st) h := zq_aln (by decide +kernel : decode (zco 120) 18 = .ok (.aload_n 0, 1)) rfl
theorem q120_19 {a : Nat} : zev xs L 120 19 ls (.ref a :: st) h = (zget h a 8 9).bind (fun v => zev xs L 120 22 ls (v :: st) h) := zq_gf (by decide +kernel : decode (zco 120) 19 = .ok (.getfield 32, 3)) (by decide +kernel)
theorem q120_22 : zev xs L 120 22 ls st h = zev xs L 120 24 ls (.int (nI 61) :: st) h := zq_bi (by decide +kernel : decode (zco 120) 22 = .ok (.bipush 61, 2)) rfl
theorem q120_24 {x : Int32} : zev xs L 120 24 [v0, .int x, v2, v3] st h = zev xs L 120 25 [v0, .int x, v2, v3] (.int x :: st) h := zq_iln (by decide +kernel : decode (zco 120) 24 = .ok (.iload_n 1, 1)) rfl
theorem q120_25 {x y : Int32} : zev xs L 120 25 ls (.int y :: .int x :: st) h = zev xs L 120 26 ls (.int (x * y) :: st) h := zq_imul (by decide +kernel : decode (zco 120) 25 = .ok (.imul, 1))
theorem q120_26 {x : Int32} : zev xs L 120 26 [v0, v1, v2, .int x] st h = zev xs L 120 27 [v0, v1, v2, .int x] (.int x :: st) h := zq_iln (by decide +kernel : decode (zco 120) 26 = .ok (.iload_n 3, 1)) rfl
theorem q120_27 {x y : Int32} : zev xs L 120 27 ls (.int y :: .int x :: st) h = zev xs L 120 28 ls (.int (x + y) :: st) h := zq_iadd (by decide +kernel : decode (zco 120) 27 = .ok (.iadd, 1))
theorem q120_28 {x : Int32} {a : Nat} : zev xs L 120 28 ls (.int x :: .ref a :: st) h = (zaldI h 20 a x).bind (fun x => zev xs L 120 29 ls (.int x :: st) h) := zq_ia (by decide +kernel : decode (zco 120) 28 = .ok (.iaload, 1))
theorem q120_29 {x y : Int32} {a : Nat} : zev xs L 120 29 ls (.int y :: .int x :: .ref a :: st) h = (zast h 20 a x (.int y)).bind (fun h => zev xs L 120 30 ls st h) := zq_ias (by decide +kernel : decode (zco 120) 29 = .ok (.iastore, 1))
theorem q120_30 {x : Int32} : zev xs L 120 30 [v0, v1, v2, .int x] st h = zev xs L 120 33 [v0, v1, v2, .int (x + nI 1)] st h := zq_inc (by decide +kernel : decode (zco 120) 30 = .ok (.iinc 3 1, 3)) rfl (by decide +kernel) (zn_1 x) rfl
theorem q120_33 : zev xs L 120 33 ls st h = zev xs L 120 2 ls st h := zq_go (by decide +kernel : decode (zco 120) 33 = .ok (.goto (-31), 3)) (by decide +kernel)
theorem q120_36 : zev xs L 120 36 ls [] h = some (none, h) := zq_rv (by decide +kernel : decode (zco 120) 36 = .ok (.return_, 1)) (by decide +kernel)
end
/- X8_known -/
section
variable {xs : Nat → Int32} {L : Nat} {ls st : List Value} {h : ZH} {v0 v1 : Value} 
theorem q121_0 {x : Nat} : zev xs L 121 0 [.ref x, v1] st h = zev xs L 121 1 [.ref x, v1] (.ref x :: st) h := zq_aln (by decide +kernel : decode (zco 121) 0 = .ok (.aload_n 0, 1)) rfl
theorem q121_1 {a : Nat} : zev xs L 121 1 ls (.ref a :: st) h = (zget h a 8 11).bind (fun v => zev xs L 121 4 ls (v :: st) h) := zq_gf (by decide +kernel : decode (zco 121) 1 = .ok (.getfield 99, 3)) (by decide +kernel)
theorem q121_4 : zev xs L 121 4 ls st h = zev xs L 121 6 ls (.int (nI 8) :: st) h := zq_bi (by decide +kernel : decode (zco 121) 4 = .ok (.bipush 8, 2)) rfl
theorem q121_6 {x y : Int32} : zev xs L 121 6 ls (.int y :: .int x :: st) h = if x = y then zev xs L 121 9 ls st h else zev xs L 121 41 ls st h := (zq_ic2 (by decide +kernel : decode (zco 121) 6 = .ok (.if_icmp .ne 35, 3)) (by decide +kernel)).trans (zdecn rfl)
theorem q121_9 : zev xs L 121 9 ls st h = zev xs L 121 10 ls (.int (nI 3) :: st) h := zq_ic (by decide +kernel : decode (zco 121) 9 = .ok (.iconst 3, 1)) rfl
theorem q121_10 {x : Int32} : zev xs L 121 10 [v0, v1] (.int x :: st) h = zev xs L 121 11 [v0, .int x] st h := zq_isn (by decide +kernel : decode (zco 121) 10 = .ok (.istore_n 1, 1)) (by decide +kernel) rfl
theorem q121_11 {x : Int32} : zev xs L 121 11 [v0, .int x] st h = zev xs L 121 12 [v0, .int x] (.int x :: st) h := zq_iln (by decide +kernel : decode (zco 121) 11 = .ok (.iload_n 1, 1)) rfl
theorem q121_12 : zev xs L 121 12 ls st h = zev xs L 121 14 ls (.int (nI 10) :: st) h := zq_bi (by decide +kernel : decode (zco 121) 12 = .ok (.bipush 10, 2)) rfl
theorem q121_14 {x y : Int32} : zev xs L 121 14 ls (.int y :: .int x :: st) h = if x < y then zev xs L 121 17 ls st h else zev xs L 121 31 ls st h := (zq_ic2 (by decide +kernel : decode (zco 121) 14 = .ok (.if_icmp .ge 17, 3)) (by decide +kernel)).trans (zdge)
theorem q121_17 {x : Nat} : zev xs L 121 17 [.ref x, v1] st h = zev xs L 121 18 [.ref x, v1] (.ref x :: st) h := zq_aln (by decide +kernel : decode (zco 121) 17 = .ok (.aload_n 0, 1)) rfl
theorem q121_18 {x : Int32} : zev xs L 121 18 [v0, .int x] st h = zev xs L 121 19 [v0, .int x] (.int x :: st) h := zq_iln (by decide +kernel : decode (zco 121) 18 = .ok (.iload_n 1, 1)) rfl
theorem q121_19 : zev xs L 121 19 ls st h = zev xs L 121 20 ls (.int (nI 1) :: st) h := zq_ic (by decide +kernel : decode (zco 121) 19 = .ok (.iconst 1, 1)) rfl
theorem q121_20 {x y : Int32} : zev xs L 121 20 ls (.int y :: .int x :: st) h = zev xs L 121 21 ls (.int (x + y) :: st) h := zq_iadd (by decide +kernel : decode (zco 121) 20 = .ok (.iadd, 1))
theorem q121_21 {x : Int32} : zev xs L 121 21 [v0, .int x] st h = zev xs L 121 22 [v0, .int x] (.int x :: st) h := zq_iln (by decide +kernel : decode (zco 121) 21 = .ok (.iload_n 1, 1)) rfl
theorem q121_22 {a : Nat} {x0 : Int32} {x1 : Int32} (ht : ztag h a = some 8) : zev xs L 121 22 ls [.int x1, .int x0, .ref a] h = (zev xs L 120 0 [.ref a, .int x0, .int x1, .null] [] h).bind (fun q => zev xs L 121 25 ls (q.1.toList ++ []) q.2) := zq_call (av := [.ref a, .int x0, .int x1]) (rest := []) (n := 3) (k := 4) (J := []) (i := .invokevirtual 128) (by decide +kernel : decode (zco 121) 22 = .ok (.invokevirtual 128, 3)) rfl (by decide +kernel) (by decide +kernel) (Nat.le_of_ble_eq_true rfl) rfl rfl rfl rfl (Or.inr (Or.inr ⟨_, _, rfl, Or.inr (Or.inr ⟨rfl, ht⟩)⟩))
theorem q121_25 {x : Int32} : zev xs L 121 25 [v0, .int x] st h = zev xs L 121 28 [v0, .int (x + nI 1)] st h := zq_inc (by decide +kernel : decode (zco 121) 25 = .ok (.iinc 1 1, 3)) rfl (by decide +kernel) (zn_1 x) rfl
theorem q121_28 : zev xs L 121 28 ls st h = zev xs L 121 11 ls st h := zq_go (by decide +kernel : decode (zco 121) 28 = .ok (.goto (-17), 3)) (by decide +kernel)
theorem q121_31 {x : Nat} : zev xs L 121 31 [.ref x, v1] st h = zev xs L 121 32 [.ref x, v1] (.ref x :: st) h := zq_aln (by decide +kernel : decode (zco 121) 31 = .ok (.aload_n 0, 1)) rfl
theorem q121_32 {x : Nat} : zev xs L 121 32 ls (.ref x :: st) h = zev xs L 121 33 ls (.ref x :: .ref x :: st) h := zq_dupa (by decide +kernel : decode (zco 121) 32 = .ok (.dup, 1))
theorem q121_33 {a : Nat} : zev xs L 121 33 ls (.ref a :: st) h = (zget h a 8 11).bind (fun v => zev xs L 121 36 ls (v :: st) h) := zq_gf (by decide +kernel : decode (zco 121) 33 = .ok (.getfield 99, 3)) (by decide +kernel)
theorem q121_36 : zev xs L 121 36 ls st h = zev xs L 121 37 ls (.int (nI 1) :: st) h := zq_ic (by decide +kernel : decode (zco 121) 36 = .ok (.iconst 1, 1)) rfl
theorem q121_37 {x y : Int32} : zev xs L 121 37 ls (.int y :: .int x :: st) h = zev xs L 121 38 ls (.int (x - y) :: st) h := zq_isub (by decide +kernel : decode (zco 121) 37 = .ok (.isub, 1))
theorem q121_38 {x : Int32} {a : Nat} : zev xs L 121 38 ls (.int x :: .ref a :: st) h = (zput h a 8 11 (.int x)).bind (fun h => zev xs L 121 41 ls st h) := zq_pfi (by decide +kernel : decode (zco 121) 38 = .ok (.putfield 99, 3)) (by decide +kernel) (by decide +kernel)
theorem q121_41 {x : Nat} : zev xs L 121 41 [.ref x, v1] st h = zev xs L 121 42 [.ref x, v1] (.ref x :: st) h := zq_aln (by decide +kernel : decode (zco 121) 41 = .ok (.aload_n 0, 1)) rfl
theorem q121_42 : zev xs L 121 42 ls st h = zev xs L 121 43 ls (.int (nI 0) :: st) h := zq_ic (by decide +kernel : decode (zco 121) 42 = .ok (.iconst 0, 1)) rfl
theorem q121_43 : zev xs L 121 43 ls st h = zev xs L 121 44 ls (.int (nI 3) :: st) h := zq_ic (by decide +kernel : decode (zco 121) 43 = .ok (.iconst 3, 1)) rfl
theorem q121_44 {x : Nat} : zev xs L 121 44 [.ref x, v1] st h = zev xs L 121 45 [.ref x, v1] (.ref x :: st) h := zq_aln (by decide +kernel : decode (zco 121) 44 = .ok (.aload_n 0, 1)) rfl
theorem q121_45 {a : Nat} : zev xs L 121 45 ls (.ref a :: st) h = (zget h a 8 11).bind (fun v => zev xs L 121 48 ls (v :: st) h) := zq_gf (by decide +kernel : decode (zco 121) 45 = .ok (.getfield 99, 3)) (by decide +kernel)
theorem q121_48 {x y : Int32} : zev xs L 121 48 ls (.int y :: .int x :: st) h = zev xs L 121 49 ls (.int (x + y) :: st) h := zq_iadd (by decide +kernel : decode (zco 121) 48 = .ok (.iadd, 1))
theorem q121_49 {a : Nat} {x0 : Int32} {x1 : Int32} (ht : ztag h a = some 8) : zev xs L 121 49 ls [.int x1, .int x0, .ref a] h = (zev xs L 120 0 [.ref a, .int x0, .int x1, .null] [] h).bind (fun q => zev xs L 121 52 ls (q.1.toList ++ []) q.2) := zq_call (av := [.ref a, .int x0, .int x1]) (rest := []) (n := 3) (k := 4) (J := []) (i := .invokevirtual 128) (by decide +kernel : decode (zco 121) 49 = .ok (.invokevirtual 128, 3)) rfl (by decide +kernel) (by decide +kernel) (Nat.le_of_ble_eq_true rfl) rfl rfl rfl rfl (Or.inr (Or.inr ⟨_, _, rfl, Or.inr (Or.inr ⟨rfl, ht⟩)⟩))
theorem q121_52 {x : Nat} : zev xs L 121 52 [.ref x, v1] st h = zev xs L 121 53 [.ref x, v1] (.ref x :: st) h := zq_aln (by decide +kernel : decode (zco 121) 52 = .ok (.aload_n 0, 1)) rfl
theorem q121_53 {x : Nat} : zev xs L 121 53 ls (.ref x :: st) h = zev xs L 121 54 ls (.ref x :: .ref x :: st) h := zq_dupa (by decide +kernel : decode (zco 121) 53 = .ok (.dup, 1))
theorem q121_54 {a : Nat} : zev xs L 121 54 ls (.ref a :: st) h = (zget h a 8 11).bind (fun v => zev xs L 121 57 ls (v :: st) h) := zq_gf (by decide +kernel : decode (zco 121) 54 = .ok (.getfield 99, 3)) (by decide +kernel)
theorem q121_57 : zev xs L 121 57 ls st h = zev xs L 121 58 ls (.int (nI 1) :: st) h := zq_ic (by decide +kernel : decode (zco 121) 57 = .ok (.iconst 1, 1)) rfl
theorem q121_58 {x y : Int32} : zev xs L 121 58 ls (.int y :: .int x :: st) h = zev xs L 121 59 ls (.int (x + y) :: st) h := zq_iadd (by decide +kernel : decode (zco 121) 58 = .ok (.iadd, 1))
theorem q121_59 {x : Int32} {a : Nat} : zev xs L 121 59 ls (.int x :: .ref a :: st) h = (zput h a 8 11 (.int x)).bind (fun h => zev xs L 121 62 ls st h) := zq_pfi (by decide +kernel : decode (zco 121) 59 = .ok (.putfield 99, 3)) (by decide +kernel) (by decide +kernel)
theorem q121_62 : zev xs L 121 62 ls [] h = some (none, h) := zq_rv (by decide +kernel : decode (zco 121) 62 = .ok (.return_, 1)) (by decide +kernel)
end
