/- X7_chance -/
section
variable {xs : Nat → Int32} {L : Nat} {ls st : List Value} {h : ZH} {v0 v1 v2 v3 v4 : Value} 
theorem q72_0 {x : Int32} : zev xs L 72 0 [v0, .int x, v2, v3, v4] st h = zev xs L 72 1 [v0, .int x, v2, v3, v4] (.int x :: st) h := zq_iln (by decide +kernel : decode (zco 72) 0 = .ok (.iload_n 1, 1)) rfl
theorem q72_1 : zev xs L 72 1 ls st h = zev xs L 72 2 ls (.int (nI 0) :: st) h := zq_ic (by decide +kernel : decode (zco 72) 1 = .ok (.iconst 0, 1)) rfl
theorem q72_2 : zev xs L 72 2 ls st h = zev xs L 72 3 ls (.int (nI 1) :: st) h := zq_ic (by decide +kernel : decode (zco 72) 2 = .ok (.iconst 1, 1)) rfl
theorem q72_3 {x0 : Int32} {x1 : Int32} {x2 : Int32} : zev xs L 72 3 ls [.int x2, .int x1, .int x0] h = (zev xs L 96 0 [.int x0, .int x1, .int x2] [] h).bind (fun q => zev xs L 72 6 ls (q.1.toList ++ []) q.2) := zq_call (av := [.int x0, .int x1, .int x2]) (rest := []) (n := 3) (k := 3) (J := []) (i := .invokestatic 81) (by decide +kernel : decode (zco 72) 3 = .ok (.invokestatic 81, 3)) rfl (by decide +kernel) (by decide +kernel) (Nat.le_of_ble_eq_true rfl) rfl rfl rfl rfl (Or.inl rfl)
theorem q72_6 {x : Int32} : zev xs L 72 6 ls (.int x :: st) h = if x = 0 then zev xs L 72 9 ls st h else zev xs L 72 11 ls st h := (zq_if (by decide +kernel : decode (zco 72) 6 = .ok (.ifCond .ne 5, 3)) (by decide +kernel)).trans (zdecn rfl)
theorem q72_9 : zev xs L 72 9 ls st h = zev xs L 72 10 ls (.int ((-1)) :: st) h := zq_ic (by decide +kernel : decode (zco 72) 9 = .ok (.iconst (-1), 1)) rfl
theorem q72_10 {x : Int32} : zev xs L 72 10 ls [.int x] h = some (some (.int x), h) := zq_ri (by decide +kernel : decode (zco 72) 10 = .ok (.ireturn, 1)) (by decide +kernel)
theorem q72_11 {x : Nat} : zev xs L 72 11 [.ref x, v1, v2, v3, v4] st h = zev xs L 72 12 [.ref x, v1, v2, v3, v4] (.ref x :: st) h := zq_aln (by decide +kernel : decode (zco 72) 11 = .ok (.aload_n 0, 1)) rfl
theorem q72_12 {a : Nat} : zev xs L 72 12 ls (.ref a :: st) h = (zget h a 7 8).bind (fun v => zev xs L 72 15 ls (v :: st) h) := zq_gf (by decide +kernel : decode (zco 72) 12 = .ok (.getfield 58, 3)) (by decide +kernel)
theorem q72_15 {x : Nat} : zev xs L 72 15 [.ref x, v1, v2, v3, v4] st h = zev xs L 72 16 [.ref x, v1, v2, v3, v4] (.ref x :: st) h := zq_aln (by decide +kernel : decode (zco 72) 15 = .ok (.aload_n 0, 1)) rfl
theorem q72_16 {a : Nat} : zev xs L 72 16 ls (.ref a :: st) h = (zget h a 7 1).bind (fun v => zev xs L 72 19 ls (v :: st) h) := zq_gf (by decide +kernel : decode (zco 72) 16 = .ok (.getfield 19, 3)) (by decide +kernel)
theorem q72_19 {x : Nat} : zev xs L 72 19 [.ref x, v1, v2, v3, v4] st h = zev xs L 72 20 [.ref x, v1, v2, v3, v4] (.ref x :: st) h := zq_aln (by decide +kernel : decode (zco 72) 19 = .ok (.aload_n 0, 1)) rfl
theorem q72_20 {a : Nat} : zev xs L 72 20 ls (.ref a :: st) h = (zget h a 7 3).bind (fun v => zev xs L 72 23 ls (v :: st) h) := zq_gf (by decide +kernel : decode (zco 72) 20 = .ok (.getfield 29, 3)) (by decide +kernel)
theorem q72_23 {a : Nat} {x0 : Nat} {x1 : Nat} (ht : ztag h a = some 6) : zev xs L 72 23 ls [.ref x1, .ref x0, .ref a] h = (zev xs L 50 0 [.ref a, .ref x0, .ref x1, .null, .null] [] h).bind (fun q => zev xs L 72 26 ls (q.1.toList ++ []) q.2) := zq_call (av := [.ref a, .ref x0, .ref x1]) (rest := []) (n := 3) (k := 5) (J := []) (i := .invokevirtual 197) (by decide +kernel : decode (zco 72) 23 = .ok (.invokevirtual 197, 3)) rfl (by decide +kernel) (by decide +kernel) (Nat.le_of_ble_eq_true rfl) rfl rfl rfl rfl (Or.inr (Or.inr ⟨_, _, rfl, Or.inr (Or.inr ⟨rfl, ht⟩)⟩))
theorem q72_26 {x : Int32} : zev xs L 72 26 [v0, v1, v2, v3, v4] (.int x :: st) h = zev xs L 72 27 [v0, v1, .int x, v3, v4] st h := zq_isn (by decide +kernel : decode (zco 72) 26 = .ok (.istore_n 2, 1)) (by decide +kernel) rfl
theorem q72_27 {x : Nat} : zev xs L 72 27 [.ref x, v1, v2, v3, v4] st h = zev xs L 72 28 [.ref x, v1, v2, v3, v4] (.ref x :: st) h := zq_aln (by decide +kernel : decode (zco 72) 27 = .ok (.aload_n 0, 1)) rfl
theorem q72_28 {a : Nat} : zev xs L 72 28 ls (.ref a :: st) h = (zget h a 7 8).bind (fun v => zev xs L 72 31 ls (v :: st) h) := zq_gf (by decide +kernel : decode (zco 72) 28 = .ok (.getfield 58, 3)) (by decide +kernel)
theorem q72_31 {a : Nat} : zev xs L 72 31 ls (.ref a :: st) h = (zget h a 6 4).bind (fun v => zev xs L 72 34 ls (v :: st) h) := zq_gf (by decide +kernel : decode (zco 72) 31 = .ok (.getfield 201, 3)) (by decide +kernel)
theorem q72_34 {x : Int32} : zev xs L 72 34 [v0, v1, v2, v3, v4] (.int x :: st) h = zev xs L 72 35 [v0, v1, v2, .int x, v4] st h := zq_isn (by decide +kernel : decode (zco 72) 34 = .ok (.istore_n 3, 1)) (by decide +kernel) rfl
theorem q72_35 : zev xs L 72 35 ls st h = zev xs L 72 36 ls (.int (nI 1) :: st) h := zq_ic (by decide +kernel : decode (zco 72) 35 = .ok (.iconst 1, 1)) rfl
theorem q72_36 {x : Int32} : zev xs L 72 36 [v0, v1, .int x, v3, v4] st h = zev xs L 72 37 [v0, v1, .int x, v3, v4] (.int x :: st) h := zq_iln (by decide +kernel : decode (zco 72) 36 = .ok (.iload_n 2, 1)) rfl
theorem q72_37 {x : Int32} : zev xs L 72 37 [v0, v1, v2, .int x, v4] st h = zev xs L 72 38 [v0, v1, v2, .int x, v4] (.int x :: st) h := zq_iln (by decide +kernel : decode (zco 72) 37 = .ok (.iload_n 3, 1)) rfl
theorem q72_38 {x0 : Int32} {x1 : Int32} {r1 : Value} : zev xs L 72 38 ls [.int x1, .int x0, r1] h = (zev xs L 100 0 [.int x0, .int x1, .null, .null] [] h).bind (fun q => zev xs L 72 41 ls (q.1.toList ++ [r1]) q.2) := zq_call (av := [.int x0, .int x1]) (rest := [r1]) (n := 2) (k := 4) (J := []) (i := .invokestatic 204) (by decide +kernel : decode (zco 72) 38 = .ok (.invokestatic 204, 3)) rfl (by decide +kernel) (by decide +kernel) (Nat.le_of_ble_eq_true rfl) rfl rfl rfl rfl (Or.inl rfl)
theorem q72_41 {x y : Int32} : zev xs L 72 41 ls [.int y, .int x] h = zev xs L 72 44 ls [.int (if x < y then y else x)] h := zq_max (by decide +kernel : decode (zco 72) 41 = .ok (.invokestatic 207, 3)) (by decide +kernel) (Nat.le_of_ble_eq_true rfl) (by decide +kernel)
theorem q72_44 {x : Int32} : zev xs L 72 44 [v0, v1, v2, v3, v4] (.int x :: st) h = zev xs L 72 46 [v0, v1, v2, v3, .int x] st h := zq_is (by decide +kernel : decode (zco 72) 44 = .ok (.istore 4, 2)) (by decide +kernel) rfl
theorem q72_46 {x : Int32} : zev xs L 72 46 [v0, .int x, v2, v3, v4] st h = zev xs L 72 47 [v0, .int x, v2, v3, v4] (.int x :: st) h := zq_iln (by decide +kernel : decode (zco 72) 46 = .ok (.iload_n 1, 1)) rfl
theorem q72_47 {x : Int32} : zev xs L 72 47 ls (.int x :: st) h = if x = 0 then zev xs L 72 50 ls st h else zev xs L 72 54 ls st h := (zq_if (by decide +kernel : decode (zco 72) 47 = .ok (.ifCond .ne 7, 3)) (by decide +kernel)).trans (zdecn rfl)
theorem q72_50 {x : Int32} : zev xs L 72 50 [v0, v1, .int x, v3, v4] st h = zev xs L 72 51 [v0, v1, .int x, v3, v4] (.int x :: st) h := zq_iln (by decide +kernel : decode (zco 72) 50 = .ok (.iload_n 2, 1)) rfl
theorem q72_51 : zev xs L 72 51 ls st h = zev xs L 72 55 ls st h := zq_go (by decide +kernel : decode (zco 72) 51 = .ok (.goto 4, 3)) (by decide +kernel)
theorem q72_54 {x : Int32} : zev xs L 72 54 [v0, v1, v2, .int x, v4] st h = zev xs L 72 55 [v0, v1, v2, .int x, v4] (.int x :: st) h := zq_iln (by decide +kernel : decode (zco 72) 54 = .ok (.iload_n 3, 1)) rfl
theorem q72_55 {x : Int32} : zev xs L 72 55 [v0, v1, v2, v3, .int x] st h = zev xs L 72 57 [v0, v1, v2, v3, .int x] (.int x :: st) h := zq_il (by decide +kernel : decode (zco 72) 55 = .ok (.iload 4, 2)) rfl
theorem q72_57 {x y : Int32} : zev xs L 72 57 ls (.int y :: .int x :: st) h = if y = 0 then none else zev xs L 72 58 ls (.int (x / y) :: st) h := zq_idv (by decide +kernel : decode (zco 72) 57 = .ok (.idiv, 1))
theorem q72_58 {x : Int32} : zev xs L 72 58 ls [.int x] h = some (some (.int x), h) := zq_ri (by decide +kernel : decode (zco 72) 58 = .ok (.ireturn, 1)) (by decide +kernel)
end
/- X7_anew -/
section
variable {xs : Nat → Int32} {L : Nat} {ls st : List Value} {h : ZH} {v0 v1 v2 : Value} 
theorem q73_0 {x : Int32} : zev xs L 73 0 [v0, .int x, v2] st h = zev xs L 73 1 [v0, .int x, v2] (.int x :: st) h := zq_iln (by decide +kernel : decode (zco 73) 0 = .ok (.iload_n 1, 1)) rfl
theorem q73_1 : zev xs L 73 1 ls st h = zev xs L 73 2 ls (.int (nI 0) :: st) h := zq_ic (by decide +kernel : decode (zco 73) 1 = .ok (.iconst 0, 1)) rfl
theorem q73_2 : zev xs L 73 2 ls st h = zev xs L 73 3 ls (.int (nI 1) :: st) h := zq_ic (by decide +kernel : decode (zco 73) 2 = .ok (.iconst 1, 1)) rfl
theorem q73_3 {x0 : Int32} {x1 : Int32} {x2 : Int32} : zev xs L 73 3 ls [.int x2, .int x1, .int x0] h = (zev xs L 96 0 [.int x0, .int x1, .int x2] [] h).bind (fun q => zev xs L 73 6 ls (q.1.toList ++ []) q.2) := zq_call (av := [.int x0, .int x1, .int x2]) (rest := []) (n := 3) (k := 3) (J := []) (i := .invokestatic 81) (by decide +kernel : decode (zco 73) 3 = .ok (.invokestatic 81, 3)) rfl (by decide +kernel) (by decide +kernel) (Nat.le_of_ble_eq_true rfl) rfl rfl rfl rfl (Or.inl rfl)
theorem q73_6 {x : Int32} : zev xs L 73 6 ls (.int x :: st) h = if x = 0 then zev xs L 73 9 ls st h else zev xs L 73 11 ls st h := (zq_if (by decide +kernel : decode (zco 73) 6 = .ok (.ifCond .ne 5, 3)) (by decide +kernel)).trans (zdecn rfl)
theorem q73_9 : zev xs L 73 9 ls st h = zev xs L 73 10 ls (.int ((-1)) :: st) h := zq_ic (by decide +kernel : decode (zco 73) 9 = .ok (.iconst (-1), 1)) rfl
theorem q73_10 {x : Int32} : zev xs L 73 10 ls [.int x] h = some (some (.int x), h) := zq_ri (by decide +kernel : decode (zco 73) 10 = .ok (.ireturn, 1)) (by decide +kernel)
theorem q73_11 {x : Nat} : zev xs L 73 11 [.ref x, v1, v2] st h = zev xs L 73 12 [.ref x, v1, v2] (.ref x :: st) h := zq_aln (by decide +kernel : decode (zco 73) 11 = .ok (.aload_n 0, 1)) rfl
theorem q73_12 {a : Nat} (ht : ztag h a = some 7) : zev xs L 73 12 ls [.ref a] h = (zev xs L 95 0 [.ref a, .null, .null, .null, .null, .null] [] h).bind (fun q => zev xs L 73 15 ls (q.1.toList ++ []) q.2) := zq_call (av := [.ref a]) (rest := []) (n := 1) (k := 6) (J := []) (i := .invokevirtual 212) (by decide +kernel : decode (zco 73) 12 = .ok (.invokevirtual 212, 3)) rfl (by decide +kernel) (by decide +kernel) (Nat.le_of_ble_eq_true rfl) rfl rfl rfl rfl (Or.inr (Or.inr ⟨_, _, rfl, Or.inr (Or.inr ⟨rfl, ht⟩)⟩))
theorem q73_15 {x : Int32} : zev xs L 73 15 [v0, v1, v2] (.int x :: st) h = zev xs L 73 16 [v0, v1, .int x] st h := zq_isn (by decide +kernel : decode (zco 73) 15 = .ok (.istore_n 2, 1)) (by decide +kernel) rfl
theorem q73_16 {x : Int32} : zev xs L 73 16 [v0, v1, .int x] st h = zev xs L 73 17 [v0, v1, .int x] (.int x :: st) h := zq_iln (by decide +kernel : decode (zco 73) 16 = .ok (.iload_n 2, 1)) rfl
theorem q73_17 : zev xs L 73 17 ls st h = zev xs L 73 19 ls (.int ((-4)) :: st) h := zq_bi (by decide +kernel : decode (zco 73) 17 = .ok (.bipush (-4), 2)) rfl
theorem q73_19 {x y : Int32} : zev xs L 73 19 ls (.int y :: .int x :: st) h = if x = y then zev xs L 73 22 ls st h else zev xs L 73 25 ls st h := (zq_ic2 (by decide +kernel : decode (zco 73) 19 = .ok (.if_icmp .ne 6, 3)) (by decide +kernel)).trans (zdecn rfl)
theorem q73_22 : zev xs L 73 22 ls st h = zev xs L 73 24 ls (.int ((-4)) :: st) h := zq_bi (by decide +kernel : decode (zco 73) 22 = .ok (.bipush (-4), 2)) rfl
theorem q73_24 {x : Int32} : zev xs L 73 24 ls [.int x] h = some (some (.int x), h) := zq_ri (by decide +kernel : decode (zco 73) 24 = .ok (.ireturn, 1)) (by decide +kernel)
theorem q73_25 {x : Int32} : zev xs L 73 25 [v0, .int x, v2] st h = zev xs L 73 26 [v0, .int x, v2] (.int x :: st) h := zq_iln (by decide +kernel : decode (zco 73) 25 = .ok (.iload_n 1, 1)) rfl
theorem q73_26 {x : Int32} : zev xs L 73 26 ls (.int x :: st) h = if x = 0 then zev xs L 73 29 ls st h else zev xs L 73 35 ls st h := (zq_if (by decide +kernel : decode (zco 73) 26 = .ok (.ifCond .ne 9, 3)) (by decide +kernel)).trans (zdecn rfl)
theorem q73_29 {x : Int32} : zev xs L 73 29 [v0, v1, .int x] st h = zev xs L 73 30 [v0, v1, .int x] (.int x :: st) h := zq_iln (by decide +kernel : decode (zco 73) 29 = .ok (.iload_n 2, 1)) rfl
theorem q73_30 : zev xs L 73 30 ls st h = zev xs L 73 31 ls (.int (nI 5) :: st) h := zq_ic (by decide +kernel : decode (zco 73) 30 = .ok (.iconst 5, 1)) rfl
theorem q73_31 {x y : Int32} : zev xs L 73 31 ls (.int y :: .int x :: st) h = if y = 0 then none else zev xs L 73 32 ls (.int (x / y) :: st) h := zq_idv (by decide +kernel : decode (zco 73) 31 = .ok (.idiv, 1))
theorem q73_32 : zev xs L 73 32 ls st h = zev xs L 73 38 ls st h := zq_go (by decide +kernel : decode (zco 73) 32 = .ok (.goto 6, 3)) (by decide +kernel)
theorem q73_35 {x : Int32} : zev xs L 73 35 [v0, v1, .int x] st h = zev xs L 73 36 [v0, v1, .int x] (.int x :: st) h := zq_iln (by decide +kernel : decode (zco 73) 35 = .ok (.iload_n 2, 1)) rfl
theorem q73_36 : zev xs L 73 36 ls st h = zev xs L 73 37 ls (.int (nI 5) :: st) h := zq_ic (by decide +kernel : decode (zco 73) 36 = .ok (.iconst 5, 1)) rfl
theorem q73_37 {x y : Int32} : zev xs L 73 37 ls (.int y :: .int x :: st) h = if y = 0 then none else zev xs L 73 38 ls (.int (x - x / y * y) :: st) h := zq_irm (by decide +kernel : decode (zco 73) 37 = .ok (.irem, 1))
theorem q73_38 {x : Int32} : zev xs L 73 38 ls [.int x] h = some (some (.int x), h) := zq_ri (by decide +kernel : decode (zco 73) 38 = .ok (.ireturn, 1)) (by decide +kernel)
end
/- X7_liked -/
section
variable {xs : Nat → Int32} {L : Nat} {ls st : List Value} {h : ZH} {v0 v1 : Value} 
theorem q74_0 {x : Int32} : zev xs L 74 0 [v0, .int x] st h = zev xs L 74 1 [v0, .int x] (.int x :: st) h := zq_iln (by decide +kernel : decode (zco 74) 0 = .ok (.iload_n 1, 1)) rfl
theorem q74_1 : zev xs L 74 1 ls st h = zev xs L 74 2 ls (.int (nI 0) :: st) h := zq_ic (by decide +kernel : decode (zco 74) 1 = .ok (.iconst 0, 1)) rfl
theorem q74_2 : zev xs L 74 2 ls st h = zev xs L 74 3 ls (.int (nI 1) :: st) h := zq_ic (by decide +kernel : decode (zco 74) 2 = .ok (.iconst 1, 1)) rfl
theorem q74_3 {x0 : Int32} {x1 : Int32} {x2 : Int32} : zev xs L 74 3 ls [.int x2, .int x1, .int x0] h = (zev xs L 96 0 [.int x0, .int x1, .int x2] [] h).bind (fun q => zev xs L 74 6 ls (q.1.toList ++ []) q.2) := zq_call (av := [.int x0, .int x1, .int x2]) (rest := []) (n := 3) (k := 3) (J := []) (i := .invokestatic 81) (by decide +kernel : decode (zco 74) 3 = .ok (.invokestatic 81, 3)) rfl (by decide +kernel) (by decide +kernel) (Nat.le_of_ble_eq_true rfl) rfl rfl rfl rfl (Or.inl rfl)
theorem q74_6 {x : Int32} : zev xs L 74 6 ls (.int x :: st) h = if x = 0 then zev xs L 74 9 ls st h else zev xs L 74 11 ls st h := (zq_if (by decide +kernel : decode (zco 74) 6 = .ok (.ifCond .ne 5, 3)) (by decide +kernel)).trans (zdecn rfl)
theorem q74_9 : zev xs L 74 9 ls st h = zev xs L 74 10 ls (.int ((-1)) :: st) h := zq_ic (by decide +kernel : decode (zco 74) 9 = .ok (.iconst (-1), 1)) rfl
theorem q74_10 {x : Int32} : zev xs L 74 10 ls [.int x] h = some (some (.int x), h) := zq_ri (by decide +kernel : decode (zco 74) 10 = .ok (.ireturn, 1)) (by decide +kernel)
theorem q74_11 {x : Nat} : zev xs L 74 11 [.ref x, v1] st h = zev xs L 74 12 [.ref x, v1] (.ref x :: st) h := zq_aln (by decide +kernel : decode (zco 74) 11 = .ok (.aload_n 0, 1)) rfl
theorem q74_12 {a : Nat} : zev xs L 74 12 ls (.ref a :: st) h = (zget h a 7 9).bind (fun v => zev xs L 74 15 ls (v :: st) h) := zq_gf (by decide +kernel : decode (zco 74) 12 = .ok (.getfield 65, 3)) (by decide +kernel)
theorem q74_15 {x : Nat} : zev xs L 74 15 [.ref x, v1] st h = zev xs L 74 16 [.ref x, v1] (.ref x :: st) h := zq_aln (by decide +kernel : decode (zco 74) 15 = .ok (.aload_n 0, 1)) rfl
theorem q74_16 {a : Nat} : zev xs L 74 16 ls (.ref a :: st) h = (zget h a 7 1).bind (fun v => zev xs L 74 19 ls (v :: st) h) := zq_gf (by decide +kernel : decode (zco 74) 16 = .ok (.getfield 19, 3)) (by decide +kernel)
theorem q74_19 {x : Nat} : zev xs L 74 19 [.ref x, v1] st h = zev xs L 74 20 [.ref x, v1] (.ref x :: st) h := zq_aln (by decide +kernel : decode (zco 74) 19 = .ok (.aload_n 0, 1)) rfl
theorem q74_20 {a : Nat} : zev xs L 74 20 ls (.ref a :: st) h = (zget h a 7 3).bind (fun v => zev xs L 74 23 ls (v :: st) h) := zq_gf (by decide +kernel : decode (zco 74) 20 = .ok (.getfield 29, 3)) (by decide +kernel)
theorem q74_23 {a : Nat} {x0 : Nat} {x1 : Nat} (ht : ztag h a = some 0) : zev xs L 74 23 ls [.ref x1, .ref x0, .ref a] h = (zev xs L 1 0 [.ref a, .ref x0, .ref x1] [] h).bind (fun q => zev xs L 74 26 ls (q.1.toList ++ []) q.2) := zq_call (av := [.ref a, .ref x0, .ref x1]) (rest := []) (n := 3) (k := 3) (J := []) (i := .invokevirtual 215) (by decide +kernel : decode (zco 74) 23 = .ok (.invokevirtual 215, 3)) rfl (by decide +kernel) (by decide +kernel) (Nat.le_of_ble_eq_true rfl) rfl rfl rfl rfl (Or.inr (Or.inr ⟨_, _, rfl, Or.inr (Or.inr ⟨rfl, ht⟩)⟩))
theorem q74_26 {x : Int32} : zev xs L 74 26 [v0, .int x] st h = zev xs L 74 27 [v0, .int x] (.int x :: st) h := zq_iln (by decide +kernel : decode (zco 74) 26 = .ok (.iload_n 1, 1)) rfl
theorem q74_27 {x : Int32} : zev xs L 74 27 ls (.int x :: st) h = if x = 0 then zev xs L 74 30 ls st h else zev xs L 74 40 ls st h := (zq_if (by decide +kernel : decode (zco 74) 27 = .ok (.ifCond .ne 13, 3)) (by decide +kernel)).trans (zdecn rfl)
theorem q74_30 {x : Nat} : zev xs L 74 30 [.ref x, v1] st h = zev xs L 74 31 [.ref x, v1] (.ref x :: st) h := zq_aln (by decide +kernel : decode (zco 74) 30 = .ok (.aload_n 0, 1)) rfl
theorem q74_31 {a : Nat} : zev xs L 74 31 ls (.ref a :: st) h = (zget h a 7 9).bind (fun v => zev xs L 74 34 ls (v :: st) h) := zq_gf (by decide +kernel : decode (zco 74) 31 = .ok (.getfield 65, 3)) (by decide +kernel)
theorem q74_34 {a : Nat} (ht : ztag h a = some 0) : zev xs L 74 34 ls [.ref a] h = (zev xs L 6 0 [.ref a, .null, .null, .null] [] h).bind (fun q => zev xs L 74 37 ls (q.1.toList ++ []) q.2) := zq_call (av := [.ref a]) (rest := []) (n := 1) (k := 4) (J := []) (i := .invokevirtual 219) (by decide +kernel : decode (zco 74) 34 = .ok (.invokevirtual 219, 3)) rfl (by decide +kernel) (by decide +kernel) (Nat.le_of_ble_eq_true rfl) rfl rfl rfl rfl (Or.inr (Or.inr ⟨_, _, rfl, Or.inr (Or.inr ⟨rfl, ht⟩)⟩))
theorem q74_37 : zev xs L 74 37 ls st h = zev xs L 74 47 ls st h := zq_go (by decide +kernel : decode (zco 74) 37 = .ok (.goto 10, 3)) (by decide +kernel)
theorem q74_40 {x : Nat} : zev xs L 74 40 [.ref x, v1] st h = zev xs L 74 41 [.ref x, v1] (.ref x :: st) h := zq_aln (by decide +kernel : decode (zco 74) 40 = .ok (.aload_n 0, 1)) rfl
theorem q74_41 {a : Nat} : zev xs L 74 41 ls (.ref a :: st) h = (zget h a 7 9).bind (fun v => zev xs L 74 44 ls (v :: st) h) := zq_gf (by decide +kernel : decode (zco 74) 41 = .ok (.getfield 65, 3)) (by decide +kernel)
theorem q74_44 {a : Nat} (ht : ztag h a = some 0) : zev xs L 74 44 ls [.ref a] h = (zev xs L 7 0 [.ref a, .null, .null] [] h).bind (fun q => zev xs L 74 47 ls (q.1.toList ++ []) q.2) := zq_call (av := [.ref a]) (rest := []) (n := 1) (k := 3) (J := []) (i := .invokevirtual 222) (by decide +kernel : decode (zco 74) 44 = .ok (.invokevirtual 222, 3)) rfl (by decide +kernel) (by decide +kernel) (Nat.le_of_ble_eq_true rfl) rfl rfl rfl rfl (Or.inr (Or.inr ⟨_, _, rfl, Or.inr (Or.inr ⟨rfl, ht⟩)⟩))
theorem q74_47 {x : Int32} : zev xs L 74 47 ls [.int x] h = some (some (.int x), h) := zq_ri (by decide +kernel : decode (zco 74) 47 = .ok (.ireturn, 1)) (by decide +kernel)
end
/- X7_allChange -/
section
variable {xs : Nat → Int32} {L : Nat} {ls st : List Value} {h : ZH} {v0 v1 v2 : Value} 
theorem q75_0 {x : Int32} : zev xs L 75 0 [v0, .int x, v2] st h = zev xs L 75 1 [v0, .int x, v2] (.int x :: st) h := zq_iln (by decide +kernel : decode (zco 75) 0 = .ok (.iload_n 1, 1)) rfl
theorem q75_1 : zev xs L 75 1 ls st h = zev xs L 75 2 ls (.int ((-1)) :: st) h := zq_ic (by decide +kernel : decode (zco 75) 1 = .ok (.iconst (-1), 1)) rfl
theorem q75_2 {x y : Int32} : zev xs L 75 2 ls (.int y :: .int x :: st) h = if x = y then zev xs L 75 15 ls st h else zev xs L 75 5 ls st h := (zq_ic2 (by decide +kernel : decode (zco 75) 2 = .ok (.if_icmp .eq 13, 3)) (by decide +kernel)).trans (zdec rfl)
theorem q75_5 {x : Nat} : zev xs L 75 5 [.ref x, v1, v2] st h = zev xs L 75 6 [.ref x, v1, v2] (.ref x :: st) h := zq_aln (by decide +kernel : decode (zco 75) 5 = .ok (.aload_n 0, 1)) rfl
theorem q75_6 {x : Int32} : zev xs L 75 6 [v0, .int x, v2] st h = zev xs L 75 7 [v0, .int x, v2] (.int x :: st) h := zq_iln (by decide +kernel : decode (zco 75) 6 = .ok (.iload_n 1, 1)) rfl
theorem q75_7 {a : Nat} {x0 : Int32} (ht : ztag h a = some 7) : zev xs L 75 7 ls [.int x0, .ref a] h = (zev xs L 88 0 [.ref a, .int x0] [] h).bind (fun q => zev xs L 75 10 ls (q.1.toList ++ []) q.2) := zq_call (av := [.ref a, .int x0]) (rest := []) (n := 2) (k := 2) (J := []) (i := .invokevirtual 109) (by decide +kernel : decode (zco 75) 7 = .ok (.invokevirtual 109, 3)) rfl (by decide +kernel) (by decide +kernel) (Nat.le_of_ble_eq_true rfl) rfl rfl rfl rfl (Or.inr (Or.inr ⟨_, _, rfl, Or.inr (Or.inr ⟨rfl, ht⟩)⟩))
theorem q75_10 {x : Int32} : zev xs L 75 10 ls (.int x :: st) h = if x = 0 then zev xs L 75 13 ls st h else zev xs L 75 15 ls st h := (zq_if (by decide +kernel : decode (zco 75) 10 = .ok (.ifCond .ne 5, 3)) (by decide +kernel)).trans (zdecn rfl)
theorem q75_13 : zev xs L 75 13 ls st h = zev xs L 75 14 ls (.int ((-1)) :: st) h := zq_ic (by decide +kernel : decode (zco 75) 13 = .ok (.iconst (-1), 1)) rfl
theorem q75_14 {x : Int32} : zev xs L 75 14 ls [.int x] h = some (some (.int x), h) := zq_ri (by decide +kernel : decode (zco 75) 14 = .ok (.ireturn, 1)) (by decide +kernel)
theorem q75_15 {x : Nat} : zev xs L 75 15 [.ref x, v1, v2] st h = zev xs L 75 16 [.ref x, v1, v2] (.ref x :: st) h := zq_aln (by decide +kernel : decode (zco 75) 15 = .ok (.aload_n 0, 1)) rfl
theorem q75_16 {a : Nat} : zev xs L 75 16 ls (.ref a :: st) h = (zget h a 7 9).bind (fun v => zev xs L 75 19 ls (v :: st) h) := zq_gf (by decide +kernel : decode (zco 75) 16 = .ok (.getfield 65, 3)) (by decide +kernel)
theorem q75_19 {x : Nat} : zev xs L 75 19 [.ref x, v1, v2] st h = zev xs L 75 20 [.ref x, v1, v2] (.ref x :: st) h := zq_aln (by decide +kernel : decode (zco 75) 19 = .ok (.aload_n 0, 1)) rfl
theorem q75_20 {a : Nat} : zev xs L 75 20 ls (.ref a :: st) h = (zget h a 7 1).bind (fun v => zev xs L 75 23 ls (v :: st) h) := zq_gf (by decide +kernel : decode (zco 75) 20 = .ok (.getfield 19, 3)) (by decide +kernel)
theorem q75_23 {x : Nat} : zev xs L 75 23 [.ref x, v1, v2] st h = zev xs L 75 24 [.ref x, v1, v2] (.ref x :: st) h := zq_aln (by decide +kernel : decode (zco 75) 23 = .ok (.aload_n 0, 1)) rfl
theorem q75_24 {a : Nat} : zev xs L 75 24 ls (.ref a :: st) h = (zget h a 7 3).bind (fun v => zev xs L 75 27 ls (v :: st) h) := zq_gf (by decide +kernel : decode (zco 75) 24 = .ok (.getfield 29, 3)) (by decide +kernel)
theorem q75_27 {a : Nat} {x0 : Nat} {x1 : Nat} (ht : ztag h a = some 0) : zev xs L 75 27 ls [.ref x1, .ref x0, .ref a] h = (zev xs L 1 0 [.ref a, .ref x0, .ref x1] [] h).bind (fun q => zev xs L 75 30 ls (q.1.toList ++ []) q.2) := zq_call (av := [.ref a, .ref x0, .ref x1]) (rest := []) (n := 3) (k := 3) (J := []) (i := .invokevirtual 215) (by decide +kernel : decode (zco 75) 27 = .ok (.invokevirtual 215, 3)) rfl (by decide +kernel) (by decide +kernel) (Nat.le_of_ble_eq_true rfl) rfl rfl rfl rfl (Or.inr (Or.inr ⟨_, _, rfl, Or.inr (Or.inr ⟨rfl, ht⟩)⟩))
theorem q75_30 {x : Nat} : zev xs L 75 30 [.ref x, v1, v2] st h = zev xs L 75 31 [.ref x, v1, v2] (.ref x :: st) h := zq_aln (by decide +kernel : decode (zco 75) 30 = .ok (.aload_n 0, 1)) rfl
theorem q75_31 {a : Nat} : zev xs L 75 31 ls (.ref a :: st) h = (zget h a 7 9).bind (fun v => zev xs L 75 34 ls (v :: st) h) := zq_gf (by decide +kernel : decode (zco 75) 31 = .ok (.getfield 65, 3)) (by decide +kernel)
theorem q75_34 {a : Nat} (ht : ztag h a = some 0) : zev xs L 75 34 ls [.ref a] h = (zev xs L 8 0 [.ref a, .null, .null] [] h).bind (fun q => zev xs L 75 37 ls (q.1.toList ++ []) q.2) := zq_call (av := [.ref a]) (rest := []) (n := 1) (k := 3) (J := []) (i := .invokevirtual 225) (by decide +kernel : decode (zco 75) 34 = .ok (.invokevirtual 225, 3)) rfl (by decide +kernel) (by decide +kernel) (Nat.le_of_ble_eq_true rfl) rfl rfl rfl rfl (Or.inr (Or.inr ⟨_, _, rfl, Or.inr (Or.inr ⟨rfl, ht⟩)⟩))
theorem q75_37 {x : Int32} : zev xs L 75 37 [v0, v1, v2] (.int x :: st) h = zev xs L 75 38 [v0, v1, .int x] st h := zq_isn (by decide +kernel : decode (zco 75) 37 = .ok (.istore_n 2, 1)) (by decide +kernel) rfl
theorem q75_38 {x : Int32} : zev xs L 75 38 [v0, .int x, v2] st h = zev xs L 75 39 [v0, .int x, v2] (.int x :: st) h := zq_iln (by decide +kernel : decode (zco 75) 38 = .ok (.iload_n 1, 1)) rfl
theorem q75_39 : zev xs L 75 39 ls st h = zev xs L 75 40 ls (.int ((-1)) :: st) h := zq_ic (by decide +kernel : decode (zco 75) 39 = .ok (.iconst (-1), 1)) rfl
theorem q75_40 {x y : Int32} : zev xs L 75 40 ls (.int y :: .int x :: st) h = if x = y then zev xs L 75 43 ls st h else zev xs L 75 47 ls st h := (zq_ic2 (by decide +kernel : decode (zco 75) 40 = .ok (.if_icmp .ne 7, 3)) (by decide +kernel)).trans (zdecn rfl)
theorem q75_43 {x : Int32} : zev xs L 75 43 [v0, v1, .int x] st h = zev xs L 75 44 [v0, v1, .int x] (.int x :: st) h := zq_iln (by decide +kernel : decode (zco 75) 43 = .ok (.iload_n 2, 1)) rfl
theorem q75_44 : zev xs L 75 44 ls st h = zev xs L 75 55 ls st h := zq_go (by decide +kernel : decode (zco 75) 44 = .ok (.goto 11, 3)) (by decide +kernel)
theorem q75_47 {x : Nat} : zev xs L 75 47 [.ref x, v1, v2] st h = zev xs L 75 48 [.ref x, v1, v2] (.ref x :: st) h := zq_aln (by decide +kernel : decode (zco 75) 47 = .ok (.aload_n 0, 1)) rfl
theorem q75_48 {a : Nat} : zev xs L 75 48 ls (.ref a :: st) h = (zget h a 7 9).bind (fun v => zev xs L 75 51 ls (v :: st) h) := zq_gf (by decide +kernel : decode (zco 75) 48 = .ok (.getfield 65, 3)) (by decide +kernel)
theorem q75_51 {x : Int32} : zev xs L 75 51 [v0, .int x, v2] st h = zev xs L 75 52 [v0, .int x, v2] (.int x :: st) h := zq_iln (by decide +kernel : decode (zco 75) 51 = .ok (.iload_n 1, 1)) rfl
theorem q75_52 {a : Nat} {x0 : Int32} (ht : ztag h a = some 0) : zev xs L 75 52 ls [.int x0, .ref a] h = (zev xs L 2 0 [.ref a, .int x0] [] h).bind (fun q => zev xs L 75 55 ls (q.1.toList ++ []) q.2) := zq_call (av := [.ref a, .int x0]) (rest := []) (n := 2) (k := 2) (J := []) (i := .invokevirtual 228) (by decide +kernel : decode (zco 75) 52 = .ok (.invokevirtual 228, 3)) rfl (by decide +kernel) (by decide +kernel) (Nat.le_of_ble_eq_true rfl) rfl rfl rfl rfl (Or.inr (Or.inr ⟨_, _, rfl, Or.inr (Or.inr ⟨rfl, ht⟩)⟩))
theorem q75_55 {x : Int32} : zev xs L 75 55 ls [.int x] h = some (some (.int x), h) := zq_ri (by decide +kernel : decode (zco 75) 55 = .ok (.ireturn, 1)) (by decide +kernel)
end
/- X7_rounds -/
section
variable {xs : Nat → Int32} {L : Nat} {ls st : List Value} {h : ZH} {v0 v1 : Value} 
theorem q76_0 {x : Nat} : zev xs L 76 0 [.ref x, v1] st h = zev xs L 76 1 [.ref x, v1] (.ref x :: st) h := zq_aln (by decide +kernel : decode (zco 76) 0 = .ok (.aload_n 0, 1)) rfl
theorem q76_1 {x : Int32} : zev xs L 76 1 [v0, .int x] st h = zev xs L 76 2 [v0, .int x] (.int x :: st) h := zq_iln (by decide +kernel : decode (zco 76) 1 = .ok (.iload_n 1, 1)) rfl
theorem q76_2 {a : Nat} {x0 : Int32} (ht : ztag h a = some 7) : zev xs L 76 2 ls [.int x0, .ref a] h = (zev xs L 88 0 [.ref a, .int x0] [] h).bind (fun q => zev xs L 76 5 ls (q.1.toList ++ []) q.2) := zq_call (av := [.ref a, .int x0]) (rest := []) (n := 2) (k := 2) (J := []) (i := .invokevirtual 109) (by decide +kernel : decode (zco 76) 2 = .ok (.invokevirtual 109, 3)) rfl (by decide +kernel) (by decide +kernel) (Nat.le_of_ble_eq_true rfl) rfl rfl rfl rfl (Or.inr (Or.inr ⟨_, _, rfl, Or.inr (Or.inr ⟨rfl, ht⟩)⟩))
theorem q76_5 {x : Int32} : zev xs L 76 5 ls (.int x :: st) h = if x = 0 then zev xs L 76 8 ls st h else zev xs L 76 10 ls st h := (zq_if (by decide +kernel : decode (zco 76) 5 = .ok (.ifCond .ne 5, 3)) (by decide +kernel)).trans (zdecn rfl)
theorem q76_8 : zev xs L 76 8 ls st h = zev xs L 76 9 ls (.int ((-1)) :: st) h := zq_ic (by decide +kernel : decode (zco 76) 8 = .ok (.iconst (-1), 1)) rfl
theorem q76_9 {x : Int32} : zev xs L 76 9 ls [.int x] h = some (some (.int x), h) := zq_ri (by decide +kernel : decode (zco 76) 9 = .ok (.ireturn, 1)) (by decide +kernel)
theorem q76_10 {x : Nat} : zev xs L 76 10 [.ref x, v1] st h = zev xs L 76 11 [.ref x, v1] (.ref x :: st) h := zq_aln (by decide +kernel : decode (zco 76) 10 = .ok (.aload_n 0, 1)) rfl
theorem q76_11 {a : Nat} : zev xs L 76 11 ls (.ref a :: st) h = (zget h a 7 9).bind (fun v => zev xs L 76 14 ls (v :: st) h) := zq_gf (by decide +kernel : decode (zco 76) 11 = .ok (.getfield 65, 3)) (by decide +kernel)
theorem q76_14 {x : Nat} : zev xs L 76 14 [.ref x, v1] st h = zev xs L 76 15 [.ref x, v1] (.ref x :: st) h := zq_aln (by decide +kernel : decode (zco 76) 14 = .ok (.aload_n 0, 1)) rfl
theorem q76_15 {a : Nat} : zev xs L 76 15 ls (.ref a :: st) h = (zget h a 7 1).bind (fun v => zev xs L 76 18 ls (v :: st) h) := zq_gf (by decide +kernel : decode (zco 76) 15 = .ok (.getfield 19, 3)) (by decide +kernel)
theorem q76_18 {x : Nat} : zev xs L 76 18 [.ref x, v1] st h = zev xs L 76 19 [.ref x, v1] (.ref x :: st) h := zq_aln (by decide +kernel : decode (zco 76) 18 = .ok (.aload_n 0, 1)) rfl
theorem q76_19 {a : Nat} : zev xs L 76 19 ls (.ref a :: st) h = (zget h a 7 3).bind (fun v => zev xs L 76 22 ls (v :: st) h) := zq_gf (by decide +kernel : decode (zco 76) 19 = .ok (.getfield 29, 3)) (by decide +kernel)
theorem q76_22 {a : Nat} {x0 : Nat} {x1 : Nat} (ht : ztag h a = some 0) : zev xs L 76 22 ls [.ref x1, .ref x0, .ref a] h = (zev xs L 1 0 [.ref a, .ref x0, .ref x1] [] h).bind (fun q => zev xs L 76 25 ls (q.1.toList ++ []) q.2) := zq_call (av := [.ref a, .ref x0, .ref x1]) (rest := []) (n := 3) (k := 3) (J := []) (i := .invokevirtual 215) (by decide +kernel : decode (zco 76) 22 = .ok (.invokevirtual 215, 3)) rfl (by decide +kernel) (by decide +kernel) (Nat.le_of_ble_eq_true rfl) rfl rfl rfl rfl (Or.inr (Or.inr ⟨_, _, rfl, Or.inr (Or.inr ⟨rfl, ht⟩)⟩))
theorem q76_25 {x : Nat} : zev xs L 76 25 [.ref x, v1] st h = zev xs L 76 26 [.ref x, v1] (.ref x :: st) h := zq_aln (by decide +kernel : decode (zco 76) 25 = .ok (.aload_n 0, 1)) rfl
theorem q76_26 {a : Nat} : zev xs L 76 26 ls (.ref a :: st) h = (zget h a 7 9).bind (fun v => zev xs L 76 29 ls (v :: st) h) := zq_gf (by decide +kernel : decode (zco 76) 26 = .ok (.getfield 65, 3)) (by decide +kernel)
theorem q76_29 {a : Nat} (ht : ztag h a = some 0) : zev xs L 76 29 ls [.ref a] h = (zev xs L 9 0 [.ref a, .null, .null, .null] [] h).bind (fun q => zev xs L 76 32 ls (q.1.toList ++ []) q.2) := zq_call (av := [.ref a]) (rest := []) (n := 1) (k := 4) (J := []) (i := .invokevirtual 229) (by decide +kernel : decode (zco 76) 29 = .ok (.invokevirtual 229, 3)) rfl (by decide +kernel) (by decide +kernel) (Nat.le_of_ble_eq_true rfl) rfl rfl rfl rfl (Or.inr (Or.inr ⟨_, _, rfl, Or.inr (Or.inr ⟨rfl, ht⟩)⟩))
theorem q76_32 {x : Nat} : zev xs L 76 32 [.ref x, v1] st h = zev xs L 76 33 [.ref x, v1] (.ref x :: st) h := zq_aln (by decide +kernel : decode (zco 76) 32 = .ok (.aload_n 0, 1)) rfl
theorem q76_33 {a : Nat} : zev xs L 76 33 ls (.ref a :: st) h = (zget h a 7 9).bind (fun v => zev xs L 76 36 ls (v :: st) h) := zq_gf (by decide +kernel : decode (zco 76) 33 = .ok (.getfield 65, 3)) (by decide +kernel)
theorem q76_36 {a : Nat} : zev xs L 76 36 ls (.ref a :: st) h = (zget h a 0 4).bind (fun v => zev xs L 76 39 ls (v :: st) h) := zq_gf (by decide +kernel : decode (zco 76) 36 = .ok (.getfield 232, 3)) (by decide +kernel)
theorem q76_39 {x : Int32} : zev xs L 76 39 [v0, .int x] st h = zev xs L 76 40 [v0, .int x] (.int x :: st) h := zq_iln (by decide +kernel : decode (zco 76) 39 = .ok (.iload_n 1, 1)) rfl
theorem q76_40 {x : Int32} {a : Nat} : zev xs L 76 40 ls (.int x :: .ref a :: st) h = (zaldI h 20 a x).bind (fun x => zev xs L 76 41 ls (.int x :: st) h) := zq_ia (by decide +kernel : decode (zco 76) 40 = .ok (.iaload, 1))
theorem q76_41 {x : Int32} : zev xs L 76 41 ls [.int x] h = some (some (.int x), h) := zq_ri (by decide +kernel : decode (zco 76) 41 = .ok (.ireturn, 1)) (by decide +kernel)
end
/- X7_seen -/
section
variable {xs : Nat → Int32} {L : Nat} {ls st : List Value} {h : ZH} {v0 v1 v2 v3 : Value} 
theorem q77_0 {x : Nat} : zev xs L 77 0 [.ref x, v1, v2, v3] st h = zev xs L 77 1 [.ref x, v1, v2, v3] (.ref x :: st) h := zq_aln (by decide +kernel : decode (zco 77) 0 = .ok (.aload_n 0, 1)) rfl
theorem q77_1 {x : Int32} : zev xs L 77 1 [v0, .int x, v2, v3] st h = zev xs L 77 2 [v0, .int x, v2, v3] (.int x :: st) h := zq_iln (by decide +kernel : decode (zco 77) 1 = .ok (.iload_n 1, 1)) rfl
theorem q77_2 {a : Nat} {x0 : Int32} (ht : ztag h a = some 7) : zev xs L 77 2 ls [.int x0, .ref a] h = (zev xs L 88 0 [.ref a, .int x0] [] h).bind (fun q => zev xs L 77 5 ls (q.1.toList ++ []) q.2) := zq_call (av := [.ref a, .int x0]) (rest := []) (n := 2) (k := 2) (J := []) (i := .invokevirtual 109) (by decide +kernel : decode (zco 77) 2 = .ok (.invokevirtual 109, 3)) rfl (by decide +kernel) (by decide +kernel) (Nat.le_of_ble_eq_true rfl) rfl rfl rfl rfl (Or.inr (Or.inr ⟨_, _, rfl, Or.inr (Or.inr ⟨rfl, ht⟩)⟩))
theorem q77_5 {x : Int32} : zev xs L 77 5 ls (.int x :: st) h = if x = 0 then zev xs L 77 15 ls st h else zev xs L 77 8 ls st h := (zq_if (by decide +kernel : decode (zco 77) 5 = .ok (.ifCond .eq 10, 3)) (by decide +kernel)).trans (zdec rfl)
theorem q77_8 {x : Int32} : zev xs L 77 8 [v0, v1, .int x, v3] st h = zev xs L 77 9 [v0, v1, .int x, v3] (.int x :: st) h := zq_iln (by decide +kernel : decode (zco 77) 8 = .ok (.iload_n 2, 1)) rfl
theorem q77_9 {x0 : Int32} : zev xs L 77 9 ls [.int x0] h = (zev xs L 91 0 [.int x0] [] h).bind (fun q => zev xs L 77 12 ls (q.1.toList ++ []) q.2) := zq_call (av := [.int x0]) (rest := []) (n := 1) (k := 1) (J := []) (i := .invokestatic 180) (by decide +kernel : decode (zco 77) 9 = .ok (.invokestatic 180, 3)) rfl (by decide +kernel) (by decide +kernel) (Nat.le_of_ble_eq_true rfl) rfl rfl rfl rfl (Or.inl rfl)
theorem q77_12 {x : Int32} : zev xs L 77 12 ls (.int x :: st) h = if x = 0 then zev xs L 77 15 ls st h else zev xs L 77 17 ls st h := (zq_if (by decide +kernel : decode (zco 77) 12 = .ok (.ifCond .ne 5, 3)) (by decide +kernel)).trans (zdecn rfl)
theorem q77_15 : zev xs L 77 15 ls st h = zev xs L 77 16 ls (.int ((-1)) :: st) h := zq_ic (by decide +kernel : decode (zco 77) 15 = .ok (.iconst (-1), 1)) rfl
theorem q77_16 {x : Int32} : zev xs L 77 16 ls [.int x] h = some (some (.int x), h) := zq_ri (by decide +kernel : decode (zco 77) 16 = .ok (.ireturn, 1)) (by decide +kernel)
theorem q77_17 {x : Nat} : zev xs L 77 17 [.ref x, v1, v2, v3] st h = zev xs L 77 18 [.ref x, v1, v2, v3] (.ref x :: st) h := zq_aln (by decide +kernel : decode (zco 77) 17 = .ok (.aload_n 0, 1)) rfl
theorem q77_18 {a : Nat} : zev xs L 77 18 ls (.ref a :: st) h = (zget h a 7 7).bind (fun v => zev xs L 77 21 ls (v :: st) h) := zq_gf (by decide +kernel : decode (zco 77) 18 = .ok (.getfield 51, 3)) (by decide +kernel)
theorem q77_21 {x : Int32} : zev xs L 77 21 [v0, .int x, v2, v3] st h = zev xs L 77 22 [v0, .int x, v2, v3] (.int x :: st) h := zq_iln (by decide +kernel : decode (zco 77) 21 = .ok (.iload_n 1, 1)) rfl
theorem q77_22 {x : Int32} : zev xs L 77 22 [v0, v1, .int x, v3] st h = zev xs L 77 23 [v0, v1, .int x, v3] (.int x :: st) h := zq_iln (by decide +kernel : decode (zco 77) 22 = .ok (.iload_n 2, 1)) rfl
theorem q77_23 {x : Int32} : zev xs L 77 23 [v0, v1, v2, .int x] st h = zev xs L 77 24 [v0, v1, v2, .int x] (.int x :: st) h := zq_iln (by decide +kernel : decode (zco 77) 23 = .ok (.iload_n 3, 1)) rfl
theorem q77_24 {a : Nat} {x0 : Int32} {x1 : Int32} {x2 : Int32} (ht : ztag h a = some 3) : zev xs L 77 24 ls [.int x2, .int x1, .int x0, .ref a] h = (zev xs L 26 0 [.ref a, .int x0, .int x1, .int x2] [] h).bind (fun q => zev xs L 77 27 ls (q.1.toList ++ []) q.2) := zq_call (av := [.ref a, .int x0, .int x1, .int x2]) (rest := []) (n := 4) (k := 4) (J := []) (i := .invokevirtual 235) (by decide +kernel : decode (zco 77) 24 = .ok (.invokevirtual 235, 3)) rfl (by decide +kernel) (by decide +kernel) (Nat.le_of_ble_eq_true rfl) rfl rfl rfl rfl (Or.inr (Or.inr ⟨_, _, rfl, Or.inr (Or.inr ⟨rfl, ht⟩)⟩))
theorem q77_27 {x : Int32} : zev xs L 77 27 ls (.int x :: st) h = if x = 0 then zev xs L 77 40 ls st h else zev xs L 77 30 ls st h := (zq_if (by decide +kernel : decode (zco 77) 27 = .ok (.ifCond .eq 13, 3)) (by decide +kernel)).trans (zdec rfl)
theorem q77_30 {x : Nat} : zev xs L 77 30 [.ref x, v1, v2, v3] st h = zev xs L 77 31 [.ref x, v1, v2, v3] (.ref x :: st) h := zq_aln (by decide +kernel : decode (zco 77) 30 = .ok (.aload_n 0, 1)) rfl
theorem q77_31 {a : Nat} : zev xs L 77 31 ls (.ref a :: st) h = (zget h a 7 7).bind (fun v => zev xs L 77 34 ls (v :: st) h) := zq_gf (by decide +kernel : decode (zco 77) 31 = .ok (.getfield 51, 3)) (by decide +kernel)
theorem q77_34 {a : Nat} : zev xs L 77 34 ls (.ref a :: st) h = (zget h a 3 2).bind (fun v => zev xs L 77 37 ls (v :: st) h) := zq_gf (by decide +kernel : decode (zco 77) 34 = .ok (.getfield 239, 3)) (by decide +kernel)
theorem q77_37 : zev xs L 77 37 ls st h = zev xs L 77 42 ls st h := zq_go (by decide +kernel : decode (zco 77) 37 = .ok (.goto 5, 3)) (by decide +kernel)
theorem q77_40 : zev xs L 77 40 ls st h = zev xs L 77 42 ls (.int ((-3)) :: st) h := zq_bi (by decide +kernel : decode (zco 77) 40 = .ok (.bipush (-3), 2)) rfl
theorem q77_42 {x : Int32} : zev xs L 77 42 ls [.int x] h = some (some (.int x), h) := zq_ri (by decide +kernel : decode (zco 77) 42 = .ok (.ireturn, 1)) (by decide +kernel)
end
/- X7_forget -/
section
variable {xs : Nat → Int32} {L : Nat} {ls st : List Value} {h : ZH} {v0 v1 : Value} 
theorem q78_0 {x : Nat} : zev xs L 78 0 [.ref x, v1] st h = zev xs L 78 1 [.ref x, v1] (.ref x :: st) h := zq_aln (by decide +kernel : decode (zco 78) 0 = .ok (.aload_n 0, 1)) rfl
theorem q78_1 {a : Nat} : zev xs L 78 1 ls (.ref a :: st) h = (zget h a 7 7).bind (fun v => zev xs L 78 4 ls (v :: st) h) := zq_gf (by decide +kernel : decode (zco 78) 1 = .ok (.getfield 51, 3)) (by decide +kernel)
theorem q78_4 {a : Nat} : zev xs L 78 4 ls (.ref a :: st) h = (zget h a 3 2).bind (fun v => zev xs L 78 7 ls (v :: st) h) := zq_gf (by decide +kernel : decode (zco 78) 4 = .ok (.getfield 239, 3)) (by decide +kernel)
theorem q78_7 {x : Int32} : zev xs L 78 7 [v0, v1] (.int x :: st) h = zev xs L 78 8 [v0, .int x] st h := zq_isn (by decide +kernel : decode (zco 78) 7 = .ok (.istore_n 1, 1)) (by decide +kernel) rfl
theorem q78_8 {x : Nat} : zev xs L 78 8 [.ref x, v1] st h = zev xs L 78 9 [.ref x, v1] (.ref x :: st) h := zq_aln (by decide +kernel : decode (zco 78) 8 = .ok (.aload_n 0, 1)) rfl
theorem q78_9 {a : Nat} : zev xs L 78 9 ls (.ref a :: st) h = (zget h a 7 7).bind (fun v => zev xs L 78 12 ls (v :: st) h) := zq_gf (by decide +kernel : decode (zco 78) 9 = .ok (.getfield 51, 3)) (by decide +kernel)
theorem q78_12 {a : Nat} (ht : ztag h a = some 3) : zev xs L 78 12 ls [.ref a] h = (zev xs L 27 0 [.ref a, .null] [] h).bind (fun q => zev xs L 78 15 ls (q.1.toList ++ []) q.2) := zq_call (av := [.ref a]) (rest := []) (n := 1) (k := 2) (J := []) (i := .invokevirtual 103) (by decide +kernel : decode (zco 78) 12 = .ok (.invokevirtual 103, 3)) rfl (by decide +kernel) (by decide +kernel) (Nat.le_of_ble_eq_true rfl) rfl rfl rfl rfl (Or.inr (Or.inr ⟨_, _, rfl, Or.inr (Or.inr ⟨rfl, ht⟩)⟩))
theorem q78_15 {x : Int32} : zev xs L 78 15 [v0, .int x] st h = zev xs L 78 16 [v0, .int x] (.int x :: st) h := zq_iln (by decide +kernel : decode (zco 78) 15 = .ok (.iload_n 1, 1)) rfl
theorem q78_16 {x : Int32} : zev xs L 78 16 ls [.int x] h = some (some (.int x), h) := zq_ri (by decide +kernel : decode (zco 78) 16 = .ok (.ireturn, 1)) (by decide +kernel)
end
/- X7_fits -/
section
variable {xs : Nat → Int32} {L : Nat} {ls st : List Value} {h : ZH} {v0 : Value} 
theorem q79_0 {x : Nat} : zev xs L 79 0 [.ref x] st h = zev xs L 79 1 [.ref x] (.ref x :: st) h := zq_aln (by decide +kernel : decode (zco 79) 0 = .ok (.aload_n 0, 1)) rfl
theorem q79_1 {a : Nat} : zev xs L 79 1 ls (.ref a :: st) h = (zget h a 7 8).bind (fun v => zev xs L 79 4 ls (v :: st) h) := zq_gf (by decide +kernel : decode (zco 79) 1 = .ok (.getfield 58, 3)) (by decide +kernel)
theorem q79_4 {x : Nat} : zev xs L 79 4 [.ref x] st h = zev xs L 79 5 [.ref x] (.ref x :: st) h := zq_aln (by decide +kernel : decode (zco 79) 4 = .ok (.aload_n 0, 1)) rfl
theorem q79_5 {a : Nat} : zev xs L 79 5 ls (.ref a :: st) h = (zget h a 7 1).bind (fun v => zev xs L 79 8 ls (v :: st) h) := zq_gf (by decide +kernel : decode (zco 79) 5 = .ok (.getfield 19, 3)) (by decide +kernel)
theorem q79_8 {x : Nat} : zev xs L 79 8 [.ref x] st h = zev xs L 79 9 [.ref x] (.ref x :: st) h := zq_aln (by decide +kernel : decode (zco 79) 8 = .ok (.aload_n 0, 1)) rfl
theorem q79_9 {a : Nat} : zev xs L 79 9 ls (.ref a :: st) h = (zget h a 7 3).bind (fun v => zev xs L 79 12 ls (v :: st) h) := zq_gf (by decide +kernel : decode (zco 79) 9 = .ok (.getfield 29, 3)) (by decide +kernel)
theorem q79_12 {x : Nat} : zev xs L 79 12 [.ref x] st h = zev xs L 79 13 [.ref x] (.ref x :: st) h := zq_aln (by decide +kernel : decode (zco 79) 12 = .ok (.aload_n 0, 1)) rfl
theorem q79_13 {a : Nat} : zev xs L 79 13 ls (.ref a :: st) h = (zget h a 7 7).bind (fun v => zev xs L 79 16 ls (v :: st) h) := zq_gf (by decide +kernel : decode (zco 79) 13 = .ok (.getfield 51, 3)) (by decide +kernel)
theorem q79_16 {a : Nat} {x0 : Nat} {x1 : Nat} {x2 : Nat} (ht : ztag h a = some 6) : zev xs L 79 16 ls [.ref x2, .ref x1, .ref x0, .ref a] h = (zev xs L 52 0 [.ref a, .ref x0, .ref x1, .ref x2, .null, .null] [] h).bind (fun q => zev xs L 79 19 ls (q.1.toList ++ []) q.2) := zq_call (av := [.ref a, .ref x0, .ref x1, .ref x2]) (rest := []) (n := 4) (k := 6) (J := []) (i := .invokevirtual 240) (by decide +kernel : decode (zco 79) 16 = .ok (.invokevirtual 240, 3)) rfl (by decide +kernel) (by decide +kernel) (Nat.le_of_ble_eq_true rfl) rfl rfl rfl rfl (Or.inr (Or.inr ⟨_, _, rfl, Or.inr (Or.inr ⟨rfl, ht⟩)⟩))
theorem q79_19 {x : Int32} : zev xs L 79 19 ls [.int x] h = some (some (.int x), h) := zq_ri (by decide +kernel : decode (zco 79) 19 = .ok (.ireturn, 1)) (by decide +kernel)
end
/- X7_sure -/
section
variable {xs : Nat → Int32} {L : Nat} {ls st : List Value} {h : ZH} {v0 v1 : Value} 
theorem q80_0 {x : Nat} : zev xs L 80 0 [.ref x, v1] st h = zev xs L 80 1 [.ref x, v1] (.ref x :: st) h := zq_aln (by decide +kernel : decode (zco 80) 0 = .ok (.aload_n 0, 1)) rfl
theorem q80_1 {x : Int32} : zev xs L 80 1 [v0, .int x] st h = zev xs L 80 2 [v0, .int x] (.int x :: st) h := zq_iln (by decide +kernel : decode (zco 80) 1 = .ok (.iload_n 1, 1)) rfl
theorem q80_2 {a : Nat} {x0 : Int32} (ht : ztag h a = some 7) : zev xs L 80 2 ls [.int x0, .ref a] h = (zev xs L 88 0 [.ref a, .int x0] [] h).bind (fun q => zev xs L 80 5 ls (q.1.toList ++ []) q.2) := zq_call (av := [.ref a, .int x0]) (rest := []) (n := 2) (k := 2) (J := []) (i := .invokevirtual 109) (by decide +kernel : decode (zco 80) 2 = .ok (.invokevirtual 109, 3)) rfl (by decide +kernel) (by decide +kernel) (Nat.le_of_ble_eq_true rfl) rfl rfl rfl rfl (Or.inr (Or.inr ⟨_, _, rfl, Or.inr (Or.inr ⟨rfl, ht⟩)⟩))
theorem q80_5 {x : Int32} : zev xs L 80 5 ls (.int x :: st) h = if x = 0 then zev xs L 80 31 ls st h else zev xs L 80 8 ls st h := (zq_if (by decide +kernel : decode (zco 80) 5 = .ok (.ifCond .eq 26, 3)) (by decide +kernel)).trans (zdec rfl)
theorem q80_8 {x : Nat} : zev xs L 80 8 [.ref x, v1] st h = zev xs L 80 9 [.ref x, v1] (.ref x :: st) h := zq_aln (by decide +kernel : decode (zco 80) 8 = .ok (.aload_n 0, 1)) rfl
theorem q80_9 {a : Nat} : zev xs L 80 9 ls (.ref a :: st) h = (zget h a 7 8).bind (fun v => zev xs L 80 12 ls (v :: st) h) := zq_gf (by decide +kernel : decode (zco 80) 9 = .ok (.getfield 58, 3)) (by decide +kernel)
theorem q80_12 {x : Nat} : zev xs L 80 12 [.ref x, v1] st h = zev xs L 80 13 [.ref x, v1] (.ref x :: st) h := zq_aln (by decide +kernel : decode (zco 80) 12 = .ok (.aload_n 0, 1)) rfl
theorem q80_13 {a : Nat} : zev xs L 80 13 ls (.ref a :: st) h = (zget h a 7 1).bind (fun v => zev xs L 80 16 ls (v :: st) h) := zq_gf (by decide +kernel : decode (zco 80) 13 = .ok (.getfield 19, 3)) (by decide +kernel)
theorem q80_16 {x : Nat} : zev xs L 80 16 [.ref x, v1] st h = zev xs L 80 17 [.ref x, v1] (.ref x :: st) h := zq_aln (by decide +kernel : decode (zco 80) 16 = .ok (.aload_n 0, 1)) rfl
theorem q80_17 {a : Nat} : zev xs L 80 17 ls (.ref a :: st) h = (zget h a 7 3).bind (fun v => zev xs L 80 20 ls (v :: st) h) := zq_gf (by decide +kernel : decode (zco 80) 17 = .ok (.getfield 29, 3)) (by decide +kernel)
theorem q80_20 {x : Nat} : zev xs L 80 20 [.ref x, v1] st h = zev xs L 80 21 [.ref x, v1] (.ref x :: st) h := zq_aln (by decide +kernel : decode (zco 80) 20 = .ok (.aload_n 0, 1)) rfl
theorem q80_21 {a : Nat} : zev xs L 80 21 ls (.ref a :: st) h = (zget h a 7 7).bind (fun v => zev xs L 80 24 ls (v :: st) h) := zq_gf (by decide +kernel : decode (zco 80) 21 = .ok (.getfield 51, 3)) (by decide +kernel)
theorem q80_24 {x : Int32} : zev xs L 80 24 [v0, .int x] st h = zev xs L 80 25 [v0, .int x] (.int x :: st) h := zq_iln (by decide +kernel : decode (zco 80) 24 = .ok (.iload_n 1, 1)) rfl
theorem q80_25 {a : Nat} {x0 : Nat} {x1 : Nat} {x2 : Nat} {x3 : Int32} (ht : ztag h a = some 6) : zev xs L 80 25 ls [.int x3, .ref x2, .ref x1, .ref x0, .ref a] h = (zev xs L 53 0 [.ref a, .ref x0, .ref x1, .ref x2, .int x3, .null, .null, .null] [] h).bind (fun q => zev xs L 80 28 ls (q.1.toList ++ []) q.2) := zq_call (av := [.ref a, .ref x0, .ref x1, .ref x2, .int x3]) (rest := []) (n := 5) (k := 8) (J := []) (i := .invokevirtual 244) (by decide +kernel : decode (zco 80) 25 = .ok (.invokevirtual 244, 3)) rfl (by decide +kernel) (by decide +kernel) (Nat.le_of_ble_eq_true rfl) rfl rfl rfl rfl (Or.inr (Or.inr ⟨_, _, rfl, Or.inr (Or.inr ⟨rfl, ht⟩)⟩))
theorem q80_28 : zev xs L 80 28 ls st h = zev xs L 80 32 ls st h := zq_go (by decide +kernel : decode (zco 80) 28 = .ok (.goto 4, 3)) (by decide +kernel)
theorem q80_31 : zev xs L 80 31 ls st h = zev xs L 80 32 ls (.int ((-1)) :: st) h := zq_ic (by decide +kernel : decode (zco 80) 31 = .ok (.iconst (-1), 1)) rfl
theorem q80_32 {x : Int32} : zev xs L 80 32 ls [.int x] h = some (some (.int x), h) := zq_ri (by decide +kernel : decode (zco 80) 32 = .ok (.ireturn, 1)) (by decide +kernel)
end
/- X7_fairest -/
section
variable {xs : Nat → Int32} {L : Nat} {ls st : List Value} {h : ZH} {v0 v1 v2 : Value} 
theorem q81_0 {x : Int32} : zev xs L 81 0 [v0, .int x, v2] st h = zev xs L 81 1 [v0, .int x, v2] (.int x :: st) h := zq_iln (by decide +kernel : decode (zco 81) 0 = .ok (.iload_n 1, 1)) rfl
theorem q81_1 : zev xs L 81 1 ls st h = zev xs L 81 2 ls (.int ((-1)) :: st) h := zq_ic (by decide +kernel : decode (zco 81) 1 = .ok (.iconst (-1), 1)) rfl
theorem q81_2 {x y : Int32} : zev xs L 81 2 ls (.int y :: .int x :: st) h = if x = y then zev xs L 81 15 ls st h else zev xs L 81 5 ls st h := (zq_ic2 (by decide +kernel : decode (zco 81) 2 = .ok (.if_icmp .eq 13, 3)) (by decide +kernel)).trans (zdec rfl)
theorem q81_5 {x : Nat} : zev xs L 81 5 [.ref x, v1, v2] st h = zev xs L 81 6 [.ref x, v1, v2] (.ref x :: st) h := zq_aln (by decide +kernel : decode (zco 81) 5 = .ok (.aload_n 0, 1)) rfl
theorem q81_6 {x : Int32} : zev xs L 81 6 [v0, .int x, v2] st h = zev xs L 81 7 [v0, .int x, v2] (.int x :: st) h := zq_iln (by decide +kernel : decode (zco 81) 6 = .ok (.iload_n 1, 1)) rfl
theorem q81_7 {a : Nat} {x0 : Int32} (ht : ztag h a = some 7) : zev xs L 81 7 ls [.int x0, .ref a] h = (zev xs L 88 0 [.ref a, .int x0] [] h).bind (fun q => zev xs L 81 10 ls (q.1.toList ++ []) q.2) := zq_call (av := [.ref a, .int x0]) (rest := []) (n := 2) (k := 2) (J := []) (i := .invokevirtual 109) (by decide +kernel : decode (zco 81) 7 = .ok (.invokevirtual 109, 3)) rfl (by decide +kernel) (by decide +kernel) (Nat.le_of_ble_eq_true rfl) rfl rfl rfl rfl (Or.inr (Or.inr ⟨_, _, rfl, Or.inr (Or.inr ⟨rfl, ht⟩)⟩))
theorem q81_10 {x : Int32} : zev xs L 81 10 ls (.int x :: st) h = if x = 0 then zev xs L 81 13 ls st h else zev xs L 81 15 ls st h := (zq_if (by decide +kernel : decode (zco 81) 10 = .ok (.ifCond .ne 5, 3)) (by decide +kernel)).trans (zdecn rfl)
theorem q81_13 : zev xs L 81 13 ls st h = zev xs L 81 14 ls (.int ((-1)) :: st) h := zq_ic (by decide +kernel : decode (zco 81) 13 = .ok (.iconst (-1), 1)) rfl
theorem q81_14 {x : Int32} : zev xs L 81 14 ls [.int x] h = some (some (.int x), h) := zq_ri (by decide +kernel : decode (zco 81) 14 = .ok (.ireturn, 1)) (by decide +kernel)
theorem q81_15 {x : Nat} : zev xs L 81 15 [.ref x, v1, v2] st h = zev xs L 81 16 [.ref x, v1, v2] (.ref x :: st) h := zq_aln (by decide +kernel : decode (zco 81) 15 = .ok (.aload_n 0, 1)) rfl
theorem q81_16 {a : Nat} : zev xs L 81 16 ls (.ref a :: st) h = (zget h a 7 8).bind (fun v => zev xs L 81 19 ls (v :: st) h) := zq_gf (by decide +kernel : decode (zco 81) 16 = .ok (.getfield 58, 3)) (by decide +kernel)
theorem q81_19 {x : Nat} : zev xs L 81 19 [.ref x, v1, v2] st h = zev xs L 81 20 [.ref x, v1, v2] (.ref x :: st) h := zq_aln (by decide +kernel : decode (zco 81) 19 = .ok (.aload_n 0, 1)) rfl
theorem q81_20 {a : Nat} : zev xs L 81 20 ls (.ref a :: st) h = (zget h a 7 1).bind (fun v => zev xs L 81 23 ls (v :: st) h) := zq_gf (by decide +kernel : decode (zco 81) 20 = .ok (.getfield 19, 3)) (by decide +kernel)
theorem q81_23 {x : Nat} : zev xs L 81 23 [.ref x, v1, v2] st h = zev xs L 81 24 [.ref x, v1, v2] (.ref x :: st) h := zq_aln (by decide +kernel : decode (zco 81) 23 = .ok (.aload_n 0, 1)) rfl
theorem q81_24 {a : Nat} : zev xs L 81 24 ls (.ref a :: st) h = (zget h a 7 3).bind (fun v => zev xs L 81 27 ls (v :: st) h) := zq_gf (by decide +kernel : decode (zco 81) 24 = .ok (.getfield 29, 3)) (by decide +kernel)
theorem q81_27 {a : Nat} {x0 : Nat} {x1 : Nat} (ht : ztag h a = some 6) : zev xs L 81 27 ls [.ref x1, .ref x0, .ref a] h = (zev xs L 55 0 [.ref a, .ref x0, .ref x1, .null, .null, .null] [] h).bind (fun q => zev xs L 81 30 ls (q.1.toList ++ []) q.2) := zq_call (av := [.ref a, .ref x0, .ref x1]) (rest := []) (n := 3) (k := 6) (J := []) (i := .invokevirtual 248) (by decide +kernel : decode (zco 81) 27 = .ok (.invokevirtual 248, 3)) rfl (by decide +kernel) (by decide +kernel) (Nat.le_of_ble_eq_true rfl) rfl rfl rfl rfl (Or.inr (Or.inr ⟨_, _, rfl, Or.inr (Or.inr ⟨rfl, ht⟩)⟩))
theorem q81_30 {x : Int32} : zev xs L 81 30 [v0, v1, v2] (.int x :: st) h = zev xs L 81 31 [v0, v1, .int x] st h := zq_isn (by decide +kernel : decode (zco 81) 30 = .ok (.istore_n 2, 1)) (by decide +kernel) rfl
theorem q81_31 {x : Int32} : zev xs L 81 31 [v0, .int x, v2] st h = zev xs L 81 32 [v0, .int x, v2] (.int x :: st) h := zq_iln (by decide +kernel : decode (zco 81) 31 = .ok (.iload_n 1, 1)) rfl
theorem q81_32 : zev xs L 81 32 ls st h = zev xs L 81 33 ls (.int ((-1)) :: st) h := zq_ic (by decide +kernel : decode (zco 81) 32 = .ok (.iconst (-1), 1)) rfl
theorem q81_33 {x y : Int32} : zev xs L 81 33 ls (.int y :: .int x :: st) h = if x = y then zev xs L 81 36 ls st h else zev xs L 81 40 ls st h := (zq_ic2 (by decide +kernel : decode (zco 81) 33 = .ok (.if_icmp .ne 7, 3)) (by decide +kernel)).trans (zdecn rfl)
theorem q81_36 {x : Int32} : zev xs L 81 36 [v0, v1, .int x] st h = zev xs L 81 37 [v0, v1, .int x] (.int x :: st) h := zq_iln (by decide +kernel : decode (zco 81) 36 = .ok (.iload_n 2, 1)) rfl
theorem q81_37 : zev xs L 81 37 ls st h = zev xs L 81 49 ls st h := zq_go (by decide +kernel : decode (zco 81) 37 = .ok (.goto 12, 3)) (by decide +kernel)
theorem q81_40 {x : Nat} : zev xs L 81 40 [.ref x, v1, v2] st h = zev xs L 81 41 [.ref x, v1, v2] (.ref x :: st) h := zq_aln (by decide +kernel : decode (zco 81) 40 = .ok (.aload_n 0, 1)) rfl
theorem q81_41 {a : Nat} : zev xs L 81 41 ls (.ref a :: st) h = (zget h a 7 8).bind (fun v => zev xs L 81 44 ls (v :: st) h) := zq_gf (by decide +kernel : decode (zco 81) 41 = .ok (.getfield 58, 3)) (by decide +kernel)
theorem q81_44 {a : Nat} : zev xs L 81 44 ls (.ref a :: st) h = (zget h a 6 1).bind (fun v => zev xs L 81 47 ls (v :: st) h) := zq_gf (by decide +kernel : decode (zco 81) 44 = .ok (.getfield 251, 3)) (by decide +kernel)
theorem q81_47 {x : Int32} : zev xs L 81 47 [v0, .int x, v2] st h = zev xs L 81 48 [v0, .int x, v2] (.int x :: st) h := zq_iln (by decide +kernel : decode (zco 81) 47 = .ok (.iload_n 1, 1)) rfl
theorem q81_48 {x : Int32} {a : Nat} : zev xs L 81 48 ls (.int x :: .ref a :: st) h = (zaldI h 20 a x).bind (fun x => zev xs L 81 49 ls (.int x :: st) h) := zq_ia (by decide +kernel : decode (zco 81) 48 = .ok (.iaload, 1))
theorem q81_49 {x : Int32} : zev xs L 81 49 ls [.int x] h = some (some (.int x), h) := zq_ri (by decide +kernel : decode (zco 81) 49 = .ok (.ireturn, 1)) (by decide +kernel)
end
/- X7_make -/
section
variable {xs : Nat → Int32} {L : Nat} {ls st : List Value} {h : ZH} {v0 v1 v2 v3 : Value} 
theorem q82_0 {x : Nat} : zev xs L 82 0 [.ref x, v1, v2, v3] st h = zev xs L 82 1 [.ref x, v1, v2, v3] (.ref x :: st) h := zq_aln (by decide +kernel : decode (zco 82) 0 = .ok (.aload_n 0, 1)) rfl
theorem q82_1 {x : Int32} : zev xs L 82 1 [v0, .int x, v2, v3] st h = zev xs L 82 2 [v0, .int x, v2, v3] (.int x :: st) h := zq_iln (by decide +kernel : decode (zco 82) 1 = .ok (.iload_n 1, 1)) rfl
theorem q82_2 {a : Nat} {x0 : Int32} (ht : ztag h a = some 7) : zev xs L 82 2 ls [.int x0, .ref a] h = (zev xs L 89 0 [.ref a, .int x0] [] h).bind (fun q => zev xs L 82 5 ls (q.1.toList ++ []) q.2) := zq_call (av := [.ref a, .int x0]) (rest := []) (n := 2) (k := 2) (J := []) (i := .invokevirtual 143) (by decide +kernel : decode (zco 82) 2 = .ok (.invokevirtual 143, 3)) rfl (by decide +kernel) (by decide +kernel) (Nat.le_of_ble_eq_true rfl) rfl rfl rfl rfl (Or.inr (Or.inr ⟨_, _, rfl, Or.inr (Or.inr ⟨rfl, ht⟩)⟩))
theorem q82_5 {x : Int32} : zev xs L 82 5 ls (.int x :: st) h = if x = 0 then zev xs L 82 16 ls st h else zev xs L 82 8 ls st h := (zq_if (by decide +kernel : decode (zco 82) 5 = .ok (.ifCond .eq 11, 3)) (by decide +kernel)).trans (zdec rfl)
theorem q82_8 {x : Nat} : zev xs L 82 8 [.ref x, v1, v2, v3] st h = zev xs L 82 9 [.ref x, v1, v2, v3] (.ref x :: st) h := zq_aln (by decide +kernel : decode (zco 82) 8 = .ok (.aload_n 0, 1)) rfl
theorem q82_9 {x : Int32} : zev xs L 82 9 [v0, v1, .int x, v3] st h = zev xs L 82 10 [v0, v1, .int x, v3] (.int x :: st) h := zq_iln (by decide +kernel : decode (zco 82) 9 = .ok (.iload_n 2, 1)) rfl
theorem q82_10 {a : Nat} {x0 : Int32} (ht : ztag h a = some 7) : zev xs L 82 10 ls [.int x0, .ref a] h = (zev xs L 90 0 [.ref a, .int x0] [] h).bind (fun q => zev xs L 82 13 ls (q.1.toList ++ []) q.2) := zq_call (av := [.ref a, .int x0]) (rest := []) (n := 2) (k := 2) (J := []) (i := .invokevirtual 136) (by decide +kernel : decode (zco 82) 10 = .ok (.invokevirtual 136, 3)) rfl (by decide +kernel) (by decide +kernel) (Nat.le_of_ble_eq_true rfl) rfl rfl rfl rfl (Or.inr (Or.inr ⟨_, _, rfl, Or.inr (Or.inr ⟨rfl, ht⟩)⟩))
theorem q82_13 {x : Int32} : zev xs L 82 13 ls (.int x :: st) h = if x = 0 then zev xs L 82 16 ls st h else zev xs L 82 18 ls st h := (zq_if (by decide +kernel : decode (zco 82) 13 = .ok (.ifCond .ne 5, 3)) (by decide +kernel)).trans (zdecn rfl)
theorem q82_16 : zev xs L 82 16 ls st h = zev xs L 82 17 ls (.int ((-1)) :: st) h := zq_ic (by decide +kernel : decode (zco 82) 16 = .ok (.iconst (-1), 1)) rfl
theorem q82_17 {x : Int32} : zev xs L 82 17 ls [.int x] h = some (some (.int x), h) := zq_ri (by decide +kernel : decode (zco 82) 17 = .ok (.ireturn, 1)) (by decide +kernel)
theorem q82_18 {x : Nat} : zev xs L 82 18 [.ref x, v1, v2, v3] st h = zev xs L 82 19 [.ref x, v1, v2, v3] (.ref x :: st) h := zq_aln (by decide +kernel : decode (zco 82) 18 = .ok (.aload_n 0, 1)) rfl
theorem q82_19 {a : Nat} : zev xs L 82 19 ls (.ref a :: st) h = (zget h a 7 3).bind (fun v => zev xs L 82 22 ls (v :: st) h) := zq_gf (by decide +kernel : decode (zco 82) 19 = .ok (.getfield 29, 3)) (by decide +kernel)
theorem q82_22 {a : Nat} : zev xs L 82 22 ls (.ref a :: st) h = (zget h a 1 3).bind (fun v => zev xs L 82 25 ls (v :: st) h) := zq_gf (by decide +kernel : decode (zco 82) 22 = .ok (.getfield 146, 3)) (by decide +kernel)
theorem q82_25 {x : Int32} : zev xs L 82 25 [v0, .int x, v2, v3] st h = zev xs L 82 26 [v0, .int x, v2, v3] (.int x :: st) h := zq_iln (by decide +kernel : decode (zco 82) 25 = .ok (.iload_n 1, 1)) rfl
theorem q82_26 {x : Int32} {a : Nat} : zev xs L 82 26 ls (.int x :: .ref a :: st) h = (zaldI h 20 a x).bind (fun x => zev xs L 82 27 ls (.int x :: st) h) := zq_ia (by decide +kernel : decode (zco 82) 26 = .ok (.iaload, 1))
theorem q82_27 {x : Int32} : zev xs L 82 27 [v0, v1, v2, v3] (.int x :: st) h = zev xs L 82 28 [v0, v1, v2, .int x] st h := zq_isn (by decide +kernel : decode (zco 82) 27 = .ok (.istore_n 3, 1)) (by decide +kernel) rfl
theorem q82_28 {x : Nat} : zev xs L 82 28 [.ref x, v1, v2, v3] st h = zev xs L 82 29 [.ref x, v1, v2, v3] (.ref x :: st) h := zq_aln (by decide +kernel : decode (zco 82) 28 = .ok (.aload_n 0, 1)) rfl
theorem q82_29 {a : Nat} : zev xs L 82 29 ls (.ref a :: st) h = (zget h a 7 5).bind (fun v => zev xs L 82 32 ls (v :: st) h) := zq_gf (by decide +kernel : decode (zco 82) 29 = .ok (.getfield 41, 3)) (by decide +kernel)
theorem q82_32 {x : Nat} : zev xs L 82 32 [.ref x, v1, v2, v3] st h = zev xs L 82 33 [.ref x, v1, v2, v3] (.ref x :: st) h := zq_aln (by decide +kernel : decode (zco 82) 32 = .ok (.aload_n 0, 1)) rfl
theorem q82_33 {a : Nat} : zev xs L 82 33 ls (.ref a :: st) h = (zget h a 7 3).bind (fun v => zev xs L 82 36 ls (v :: st) h) := zq_gf (by decide +kernel : decode (zco 82) 33 = .ok (.getfield 29, 3)) (by decide +kernel)
theorem q82_36 {a : Nat} {x0 : Nat} (ht : ztag h a = some 2) : zev xs L 82 36 ls [.ref x0, .ref a] h = (zev xs L 22 0 [.ref a, .ref x0] [] h).bind (fun q => zev xs L 82 39 ls (q.1.toList ++ []) q.2) := zq_call (av := [.ref a, .ref x0]) (rest := []) (n := 2) (k := 2) (J := []) (i := .invokevirtual 165) (by decide +kernel : decode (zco 82) 36 = .ok (.invokevirtual 165, 3)) rfl (by decide +kernel) (by decide +kernel) (Nat.le_of_ble_eq_true rfl) rfl rfl rfl rfl (Or.inr (Or.inr ⟨_, _, rfl, Or.inr (Or.inr ⟨rfl, ht⟩)⟩))
theorem q82_39 {x : Nat} : zev xs L 82 39 [.ref x, v1, v2, v3] st h = zev xs L 82 40 [.ref x, v1, v2, v3] (.ref x :: st) h := zq_aln (by decide +kernel : decode (zco 82) 39 = .ok (.aload_n 0, 1)) rfl
theorem q82_40 {a : Nat} : zev xs L 82 40 ls (.ref a :: st) h = (zget h a 7 3).bind (fun v => zev xs L 82 43 ls (v :: st) h) := zq_gf (by decide +kernel : decode (zco 82) 40 = .ok (.getfield 29, 3)) (by decide +kernel)
theorem q82_43 {a : Nat} : zev xs L 82 43 ls (.ref a :: st) h = (zget h a 1 3).bind (fun v => zev xs L 82 46 ls (v :: st) h) := zq_gf (by decide +kernel : decode (zco 82) 43 = .ok (.getfield 146, 3)) (by decide +kernel)
theorem q82_46 {x : Int32} : zev xs L 82 46 [v0, .int x, v2, v3] st h = zev xs L 82 47 [v0, .int x, v2, v3] (.int x :: st) h := zq_iln (by decide +kernel : decode (zco 82) 46 = .ok (.iload_n 1, 1)) rfl
theorem q82_47 {x : Int32} : zev xs L 82 47 [v0, v1, .int x, v3] st h = zev xs L 82 48 [v0, v1, .int x, v3] (.int x :: st) h := zq_iln (by decide +kernel : decode (zco 82) 47 = .ok (.iload_n 2, 1)) rfl
theorem q82_48 {x y : Int32} {a : Nat} : zev xs L 82 48 ls (.int y :: .int x :: .ref a :: st) h = (zast h 20 a x (.int y)).bind (fun h => zev xs L 82 49 ls st h) := zq_ias (by decide +kernel : decode (zco 82) 48 = .ok (.iastore, 1))
theorem q82_49 {x : Int32} : zev xs L 82 49 [v0, v1, v2, .int x] st h = zev xs L 82 50 [v0, v1, v2, .int x] (.int x :: st) h := zq_iln (by decide +kernel : decode (zco 82) 49 = .ok (.iload_n 3, 1)) rfl
theorem q82_50 {x : Int32} : zev xs L 82 50 ls [.int x] h = some (some (.int x), h) := zq_ri (by decide +kernel : decode (zco 82) 50 = .ok (.ireturn, 1)) (by decide +kernel)
end
/- X7_falseOne -/
section
variable {xs : Nat → Int32} {L : Nat} {ls st : List Value} {h : ZH} {v0 v1 v2 v3 : Value} 
theorem q83_0 : zev xs L 83 0 ls st h = zev xs L 83 1 ls (.int (nI 0) :: st) h := zq_ic (by decide +kernel : decode (zco 83) 0 = .ok (.iconst 0, 1)) rfl
theorem q83_1 {x : Int32} : zev xs L 83 1 [v0, v1, v2, v3] (.int x :: st) h = zev xs L 83 2 [v0, .int x, v2, v3] st h := zq_isn (by decide +kernel : decode (zco 83) 1 = .ok (.istore_n 1, 1)) (by decide +kernel) rfl
theorem q83_2 {x : Int32} : zev xs L 83 2 [v0, .int x, v2, v3] st h = zev xs L 83 3 [v0, .int x, v2, v3] (.int x :: st) h := zq_iln (by decide +kernel : decode (zco 83) 2 = .ok (.iload_n 1, 1)) rfl
theorem q83_3 {x : Nat} : zev xs L 83 3 [.ref x, v1, v2, v3] st h = zev xs L 83 4 [.ref x, v1, v2, v3] (.ref x :: st) h := zq_aln (by decide +kernel : decode (zco 83) 3 = .ok (.aload_n 0, 1)) rfl
theorem q83_4 {a : Nat} : zev xs L 83 4 ls (.ref a :: st) h = (zget h a 7 1).bind (fun v => zev xs L 83 7 ls (v :: st) h) := zq_gf (by decide +kernel : decode (zco 83) 4 = .ok (.getfield 19, 3)) (by decide +kernel)
theorem q83_7 {a : Nat} : zev xs L 83 7 ls (.ref a :: st) h = (zget h a 5 0).bind (fun v => zev xs L 83 10 ls (v :: st) h) := zq_gf (by decide +kernel : decode (zco 83) 7 = .ok (.getfield 254, 3)) (by decide +kernel)
theorem q83_10 {x y : Int32} : zev xs L 83 10 ls (.int y :: .int x :: st) h = if x < y then zev xs L 83 13 ls st h else zev xs L 83 76 ls st h := (zq_ic2 (by decide +kernel : decode (zco 83) 10 = .ok (.if_icmp .ge 66, 3)) (by decide +kernel)).trans (zdge)
theorem q83_13 : zev xs L 83 13 ls st h = zev xs L 83 14 ls (.int (nI 0) :: st) h := zq_ic (by decide +kernel : decode (zco 83) 13 = .ok (.iconst 0, 1)) rfl
theorem q83_14 {x : Int32} : zev xs L 83 14 [v0, v1, v2, v3] (.int x :: st) h = zev xs L 83 15 [v0, v1, .int x, v3] st h := zq_isn (by decide +kernel : decode (zco 83) 14 = .ok (.istore_n 2, 1)) (by decide +kernel) rfl
theorem q83_15 : zev xs L 83 15 ls st h = zev xs L 83 16 ls (.int (nI 0) :: st) h := zq_ic (by decide +kernel : decode (zco 83) 15 = .ok (.iconst 0, 1)) rfl
theorem q83_16 {x : Int32} : zev xs L 83 16 [v0, v1, v2, v3] (.int x :: st) h = zev xs L 83 17 [v0, v1, v2, .int x] st h := zq_isn (by decide +kernel : decode (zco 83) 16 = .ok (.istore_n 3, 1)) (by decide +kernel) rfl
theorem q83_17 {x : Int32} : zev xs L 83 17 [v0, v1, v2, .int x] st h = zev xs L 83 18 [v0, v1, v2, .int x] (.int x :: st) h := zq_iln (by decide +kernel : decode (zco 83) 17 = .ok (.iload_n 3, 1)) rfl
theorem q83_18 {x : Nat} : zev xs L 83 18 [.ref x, v1, v2, v3] st h = zev xs L 83 19 [.ref x, v1, v2, v3] (.ref x :: st) h := zq_aln (by decide +kernel : decode (zco 83) 18 = .ok (.aload_n 0, 1)) rfl
theorem q83_19 {a : Nat} : zev xs L 83 19 ls (.ref a :: st) h = (zget h a 7 1).bind (fun v => zev xs L 83 22 ls (v :: st) h) := zq_gf (by decide +kernel : decode (zco 83) 19 = .ok (.getfield 19, 3)) (by decide +kernel)
theorem q83_22 {a : Nat} : zev xs L 83 22 ls (.ref a :: st) h = (zget h a 5 1).bind (fun v => zev xs L 83 25 ls (v :: st) h) := zq_gf (by decide +kernel : decode (zco 83) 22 = .ok (.getfield 106, 3)) (by decide +kernel)
theorem q83_25 {x y : Int32} : zev xs L 83 25 ls (.int y :: .int x :: st) h = if x < y then zev xs L 83 28 ls st h else zev xs L 83 55 ls st h := (zq_ic2 (by decide +kernel : decode (zco 83) 25 = .ok (.if_icmp .ge 30, 3)) (by decide +kernel)).trans (zdge)
theorem q83_28 {x : Int32} : zev xs L 83 28 [v0, v1, .int x, v3] st h = zev xs L 83 29 [v0, v1, .int x, v3] (.int x :: st) h := zq_iln (by decide +kernel : decode (zco 83) 28 = .ok (.iload_n 2, 1)) rfl
theorem q83_29 {x : Nat} : zev xs L 83 29 [.ref x, v1, v2, v3] st h = zev xs L 83 30 [.ref x, v1, v2, v3] (.ref x :: st) h := zq_aln (by decide +kernel : decode (zco 83) 29 = .ok (.aload_n 0, 1)) rfl
theorem q83_30 {a : Nat} : zev xs L 83 30 ls (.ref a :: st) h = (zget h a 7 3).bind (fun v => zev xs L 83 33 ls (v :: st) h) := zq_gf (by decide +kernel : decode (zco 83) 30 = .ok (.getfield 29, 3)) (by decide +kernel)
theorem q83_33 {a : Nat} : zev xs L 83 33 ls (.ref a :: st) h = (zget h a 1 3).bind (fun v => zev xs L 83 36 ls (v :: st) h) := zq_gf (by decide +kernel : decode (zco 83) 33 = .ok (.getfield 146, 3)) (by decide +kernel)
theorem q83_36 {x : Int32} : zev xs L 83 36 [v0, v1, v2, .int x] st h = zev xs L 83 37 [v0, v1, v2, .int x] (.int x :: st) h := zq_iln (by decide +kernel : decode (zco 83) 36 = .ok (.iload_n 3, 1)) rfl
theorem q83_37 {x : Int32} {a : Nat} : zev xs L 83 37 ls (.int x :: .ref a :: st) h = (zaldI h 20 a x).bind (fun x => zev xs L 83 38 ls (.int x :: st) h) := zq_ia (by decide +kernel : decode (zco 83) 37 = .ok (.iaload, 1))
theorem q83_38 {x : Int32} : zev xs L 83 38 [v0, .int x, v2, v3] st h = zev xs L 83 39 [v0, .int x, v2, v3] (.int x :: st) h := zq_iln (by decide +kernel : decode (zco 83) 38 = .ok (.iload_n 1, 1)) rfl
theorem q83_39 {x y : Int32} : zev xs L 83 39 ls (.int y :: .int x :: st) h = if x = y then zev xs L 83 42 ls st h else zev xs L 83 46 ls st h := (zq_ic2 (by decide +kernel : decode (zco 83) 39 = .ok (.if_icmp .ne 7, 3)) (by decide +kernel)).trans (zdecn rfl)
theorem q83_42 : zev xs L 83 42 ls st h = zev xs L 83 43 ls (.int (nI 1) :: st) h := zq_ic (by decide +kernel : decode (zco 83) 42 = .ok (.iconst 1, 1)) rfl
theorem q83_43 : zev xs L 83 43 ls st h = zev xs L 83 47 ls st h := zq_go (by decide +kernel : decode (zco 83) 43 = .ok (.goto 4, 3)) (by decide +kernel)
theorem q83_46 : zev xs L 83 46 ls st h = zev xs L 83 47 ls (.int (nI 0) :: st) h := zq_ic (by decide +kernel : decode (zco 83) 46 = .ok (.iconst 0, 1)) rfl
theorem q83_47 {x y : Int32} : zev xs L 83 47 ls (.int y :: .int x :: st) h = zev xs L 83 48 ls (.int (x + y) :: st) h := zq_iadd (by decide +kernel : decode (zco 83) 47 = .ok (.iadd, 1))
theorem q83_48 {x : Int32} : zev xs L 83 48 [v0, v1, v2, v3] (.int x :: st) h = zev xs L 83 49 [v0, v1, .int x, v3] st h := zq_isn (by decide +kernel : decode (zco 83) 48 = .ok (.istore_n 2, 1)) (by decide +kernel) rfl
theorem q83_49 {x : Int32} : zev xs L 83 49 [v0, v1, v2, .int x] st h = zev xs L 83 52 [v0, v1, v2, .int (x + nI 1)] st h := zq_inc (by decide +kernel : decode (zco 83) 49 = .ok (.iinc 3 1, 3)) rfl (by decide +kernel) (zn_1 x) rfl
theorem q83_52 : zev xs L 83 52 ls st h = zev xs L 83 17 ls st h := zq_go (by decide +kernel : decode (zco 83) 52 = .ok (.goto (-35), 3)) (by decide +kernel)
theorem q83_55 {x : Int32} : zev xs L 83 55 [v0, v1, .int x, v3] st h = zev xs L 83 56 [v0, v1, .int x, v3] (.int x :: st) h := zq_iln (by decide +kernel : decode (zco 83) 55 = .ok (.iload_n 2, 1)) rfl
theorem q83_56 {x : Nat} : zev xs L 83 56 [.ref x, v1, v2, v3] st h = zev xs L 83 57 [.ref x, v1, v2, v3] (.ref x :: st) h := zq_aln (by decide +kernel : decode (zco 83) 56 = .ok (.aload_n 0, 1)) rfl
theorem q83_57 {a : Nat} : zev xs L 83 57 ls (.ref a :: st) h = (zget h a 7 1).bind (fun v => zev xs L 83 60 ls (v :: st) h) := zq_gf (by decide +kernel : decode (zco 83) 57 = .ok (.getfield 19, 3)) (by decide +kernel)
theorem q83_60 {a : Nat} : zev xs L 83 60 ls (.ref a :: st) h = (zget h a 5 7).bind (fun v => zev xs L 83 63 ls (v :: st) h) := zq_gf (by decide +kernel : decode (zco 83) 60 = .ok (.getfield 257, 3)) (by decide +kernel)
theorem q83_63 {x : Int32} : zev xs L 83 63 [v0, .int x, v2, v3] st h = zev xs L 83 64 [v0, .int x, v2, v3] (.int x :: st) h := zq_iln (by decide +kernel : decode (zco 83) 63 = .ok (.iload_n 1, 1)) rfl
theorem q83_64 {x : Int32} {a : Nat} : zev xs L 83 64 ls (.int x :: .ref a :: st) h = (zaldI h 20 a x).bind (fun x => zev xs L 83 65 ls (.int x :: st) h) := zq_ia (by decide +kernel : decode (zco 83) 64 = .ok (.iaload, 1))
theorem q83_65 {x y : Int32} : zev xs L 83 65 ls (.int y :: .int x :: st) h = if y < x then zev xs L 83 68 ls st h else zev xs L 83 70 ls st h := (zq_ic2 (by decide +kernel : decode (zco 83) 65 = .ok (.if_icmp .le 5, 3)) (by decide +kernel)).trans (zdge)
theorem q83_68 {x : Int32} : zev xs L 83 68 [v0, .int x, v2, v3] st h = zev xs L 83 69 [v0, .int x, v2, v3] (.int x :: st) h := zq_iln (by decide +kernel : decode (zco 83) 68 = .ok (.iload_n 1, 1)) rfl
theorem q83_69 {x : Int32} : zev xs L 83 69 ls [.int x] h = some (some (.int x), h) := zq_ri (by decide +kernel : decode (zco 83) 69 = .ok (.ireturn, 1)) (by decide +kernel)
theorem q83_70 {x : Int32} : zev xs L 83 70 [v0, .int x, v2, v3] st h = zev xs L 83 73 [v0, .int (x + nI 1), v2, v3] st h := zq_inc (by decide +kernel : decode (zco 83) 70 = .ok (.iinc 1 1, 3)) rfl (by decide +kernel) (zn_1 x) rfl
theorem q83_73 : zev xs L 83 73 ls st h = zev xs L 83 2 ls st h := zq_go (by decide +kernel : decode (zco 83) 73 = .ok (.goto (-71), 3)) (by decide +kernel)
theorem q83_76 : zev xs L 83 76 ls st h = zev xs L 83 78 ls (.int ((-4)) :: st) h := zq_bi (by decide +kernel : decode (zco 83) 76 = .ok (.bipush (-4), 2)) rfl
theorem q83_78 {x : Int32} : zev xs L 83 78 ls [.int x] h = some (some (.int x), h) := zq_ri (by decide +kernel : decode (zco 83) 78 = .ok (.ireturn, 1)) (by decide +kernel)
end
/- X7_year -/
section
variable {xs : Nat → Int32} {L : Nat} {ls st : List Value} {h : ZH} {v0 v1 v2 v3 v4 v5 : Value} 
theorem q84_0 {x : Int32} : zev xs L 84 0 [v0, .int x, v2, v3, v4, v5] st h = zev xs L 84 1 [v0, .int x, v2, v3, v4, v5] (.int x :: st) h := zq_iln (by decide +kernel : decode (zco 84) 0 = .ok (.iload_n 1, 1)) rfl
theorem q84_1 {x0 : Int32} : zev xs L 84 1 ls [.int x0] h = (zev xs L 92 0 [.int x0] [] h).bind (fun q => zev xs L 84 4 ls (q.1.toList ++ []) q.2) := zq_call (av := [.int x0]) (rest := []) (n := 1) (k := 1) (J := []) (i := .invokestatic 159) (by decide +kernel : decode (zco 84) 1 = .ok (.invokestatic 159, 3)) rfl (by decide +kernel) (by decide +kernel) (Nat.le_of_ble_eq_true rfl) rfl rfl rfl rfl (Or.inl rfl)
theorem q84_4 {x : Int32} : zev xs L 84 4 ls (.int x :: st) h = if x = 0 then zev xs L 84 40 ls st h else zev xs L 84 7 ls st h := (zq_if (by decide +kernel : decode (zco 84) 4 = .ok (.ifCond .eq 36, 3)) (by decide +kernel)).trans (zdec rfl)
theorem q84_7 {x : Int32} : zev xs L 84 7 [v0, v1, .int x, v3, v4, v5] st h = zev xs L 84 8 [v0, v1, .int x, v3, v4, v5] (.int x :: st) h := zq_iln (by decide +kernel : decode (zco 84) 7 = .ok (.iload_n 2, 1)) rfl
theorem q84_8 : zev xs L 84 8 ls st h = zev xs L 84 9 ls (.int (nI 1) :: st) h := zq_ic (by decide +kernel : decode (zco 84) 8 = .ok (.iconst 1, 1)) rfl
theorem q84_9 : zev xs L 84 9 ls st h = zev xs L 84 11 ls (.int (nI 60) :: st) h := zq_bi (by decide +kernel : decode (zco 84) 9 = .ok (.bipush 60, 2)) rfl
theorem q84_11 {x0 : Int32} {x1 : Int32} {x2 : Int32} : zev xs L 84 11 ls [.int x2, .int x1, .int x0] h = (zev xs L 96 0 [.int x0, .int x1, .int x2] [] h).bind (fun q => zev xs L 84 14 ls (q.1.toList ++ []) q.2) := zq_call (av := [.int x0, .int x1, .int x2]) (rest := []) (n := 3) (k := 3) (J := []) (i := .invokestatic 81) (by decide +kernel : decode (zco 84) 11 = .ok (.invokestatic 81, 3)) rfl (by decide +kernel) (by decide +kernel) (Nat.le_of_ble_eq_true rfl) rfl rfl rfl rfl (Or.inl rfl)
theorem q84_14 {x : Int32} : zev xs L 84 14 ls (.int x :: st) h = if x = 0 then zev xs L 84 40 ls st h else zev xs L 84 17 ls st h := (zq_if (by decide +kernel : decode (zco 84) 14 = .ok (.ifCond .eq 26, 3)) (by decide +kernel)).trans (zdec rfl)
theorem q84_17 {x : Nat} : zev xs L 84 17 [.ref x, v1, v2, v3, v4, v5] st h = zev xs L 84 18 [.ref x, v1, v2, v3, v4, v5] (.ref x :: st) h := zq_aln (by decide +kernel : decode (zco 84) 17 = .ok (.aload_n 0, 1)) rfl
theorem q84_18 {x : Int32} : zev xs L 84 18 [v0, v1, v2, .int x, v4, v5] st h = zev xs L 84 19 [v0, v1, v2, .int x, v4, v5] (.int x :: st) h := zq_iln (by decide +kernel : decode (zco 84) 18 = .ok (.iload_n 3, 1)) rfl
theorem q84_19 {a : Nat} {x0 : Int32} (ht : ztag h a = some 7) : zev xs L 84 19 ls [.int x0, .ref a] h = (zev xs L 88 0 [.ref a, .int x0] [] h).bind (fun q => zev xs L 84 22 ls (q.1.toList ++ []) q.2) := zq_call (av := [.ref a, .int x0]) (rest := []) (n := 2) (k := 2) (J := []) (i := .invokevirtual 109) (by decide +kernel : decode (zco 84) 19 = .ok (.invokevirtual 109, 3)) rfl (by decide +kernel) (by decide +kernel) (Nat.le_of_ble_eq_true rfl) rfl rfl rfl rfl (Or.inr (Or.inr ⟨_, _, rfl, Or.inr (Or.inr ⟨rfl, ht⟩)⟩))
theorem q84_22 {x : Int32} : zev xs L 84 22 ls (.int x :: st) h = if x = 0 then zev xs L 84 40 ls st h else zev xs L 84 25 ls st h := (zq_if (by decide +kernel : decode (zco 84) 22 = .ok (.ifCond .eq 18, 3)) (by decide +kernel)).trans (zdec rfl)
theorem q84_25 {x : Int32} : zev xs L 84 25 [v0, v1, v2, v3, .int x, v5] st h = zev xs L 84 27 [v0, v1, v2, v3, .int x, v5] (.int x :: st) h := zq_il (by decide +kernel : decode (zco 84) 25 = .ok (.iload 4, 2)) rfl
theorem q84_27 : zev xs L 84 27 ls st h = zev xs L 84 28 ls (.int ((-1)) :: st) h := zq_ic (by decide +kernel : decode (zco 84) 27 = .ok (.iconst (-1), 1)) rfl
theorem q84_28 {x y : Int32} : zev xs L 84 28 ls (.int y :: .int x :: st) h = if x = y then zev xs L 84 42 ls st h else zev xs L 84 31 ls st h := (zq_ic2 (by decide +kernel : decode (zco 84) 28 = .ok (.if_icmp .eq 14, 3)) (by decide +kernel)).trans (zdec rfl)
theorem q84_31 {x : Nat} : zev xs L 84 31 [.ref x, v1, v2, v3, v4, v5] st h = zev xs L 84 32 [.ref x, v1, v2, v3, v4, v5] (.ref x :: st) h := zq_aln (by decide +kernel : decode (zco 84) 31 = .ok (.aload_n 0, 1)) rfl
theorem q84_32 {x : Int32} : zev xs L 84 32 [v0, v1, v2, v3, .int x, v5] st h = zev xs L 84 34 [v0, v1, v2, v3, .int x, v5] (.int x :: st) h := zq_il (by decide +kernel : decode (zco 84) 32 = .ok (.iload 4, 2)) rfl
theorem q84_34 {a : Nat} {x0 : Int32} (ht : ztag h a = some 7) : zev xs L 84 34 ls [.int x0, .ref a] h = (zev xs L 90 0 [.ref a, .int x0] [] h).bind (fun q => zev xs L 84 37 ls (q.1.toList ++ []) q.2) := zq_call (av := [.ref a, .int x0]) (rest := []) (n := 2) (k := 2) (J := []) (i := .invokevirtual 136) (by decide +kernel : decode (zco 84) 34 = .ok (.invokevirtual 136, 3)) rfl (by decide +kernel) (by decide +kernel) (Nat.le_of_ble_eq_true rfl) rfl rfl rfl rfl (Or.inr (Or.inr ⟨_, _, rfl, Or.inr (Or.inr ⟨rfl, ht⟩)⟩))
theorem q84_37 {x : Int32} : zev xs L 84 37 ls (.int x :: st) h = if x = 0 then zev xs L 84 40 ls st h else zev xs L 84 42 ls st h := (zq_if (by decide +kernel : decode (zco 84) 37 = .ok (.ifCond .ne 5, 3)) (by decide +kernel)).trans (zdecn rfl)
theorem q84_40 : zev xs L 84 40 ls st h = zev xs L 84 41 ls (.int ((-1)) :: st) h := zq_ic (by decide +kernel : decode (zco 84) 40 = .ok (.iconst (-1), 1)) rfl
theorem q84_41 {x : Int32} : zev xs L 84 41 ls [.int x] h = some (some (.int x), h) := zq_ri (by decide +kernel : decode (zco 84) 41 = .ok (.ireturn, 1)) (by decide +kernel)
theorem q84_42 {x : Nat} : zev xs L 84 42 [.ref x, v1, v2, v3, v4, v5] st h = zev xs L 84 43 [.ref x, v1, v2, v3, v4, v5] (.ref x :: st) h := zq_aln (by decide +kernel : decode (zco 84) 42 = .ok (.aload_n 0, 1)) rfl
theorem q84_43 {a : Nat} : zev xs L 84 43 ls (.ref a :: st) h = (zget h a 7 4).bind (fun v => zev xs L 84 46 ls (v :: st) h) := zq_gf (by decide +kernel : decode (zco 84) 43 = .ok (.getfield 33, 3)) (by decide +kernel)
theorem q84_46 {x : Nat} : zev xs L 84 46 [.ref x, v1, v2, v3, v4, v5] st h = zev xs L 84 47 [.ref x, v1, v2, v3, v4, v5] (.ref x :: st) h := zq_aln (by decide +kernel : decode (zco 84) 46 = .ok (.aload_n 0, 1)) rfl
theorem q84_47 {a : Nat} : zev xs L 84 47 ls (.ref a :: st) h = (zget h a 7 3).bind (fun v => zev xs L 84 50 ls (v :: st) h) := zq_gf (by decide +kernel : decode (zco 84) 47 = .ok (.getfield 29, 3)) (by decide +kernel)
theorem q84_50 {a : Nat} {x0 : Nat} (ht : ztag h a = some 1) : zev xs L 84 50 ls [.ref x0, .ref a] h = (zev xs L 15 0 [.ref a, .ref x0] [] h).bind (fun q => zev xs L 84 53 ls (q.1.toList ++ []) q.2) := zq_call (av := [.ref a, .ref x0]) (rest := []) (n := 2) (k := 2) (J := []) (i := .invokevirtual 260) (by decide +kernel : decode (zco 84) 50 = .ok (.invokevirtual 260, 3)) rfl (by decide +kernel) (by decide +kernel) (Nat.le_of_ble_eq_true rfl) rfl rfl rfl rfl (Or.inr (Or.inr ⟨_, _, rfl, Or.inr (Or.inr ⟨rfl, ht⟩)⟩))
theorem q84_53 : zev xs L 84 53 ls st h = zev xs L 84 54 ls (.int (nI 0) :: st) h := zq_ic (by decide +kernel : decode (zco 84) 53 = .ok (.iconst 0, 1)) rfl
theorem q84_54 {x : Int32} : zev xs L 84 54 [v0, v1, v2, v3, v4, v5] (.int x :: st) h = zev xs L 84 56 [v0, v1, v2, v3, v4, .int x] st h := zq_is (by decide +kernel : decode (zco 84) 54 = .ok (.istore 5, 2)) (by decide +kernel) rfl
theorem q84_56 {x : Int32} : zev xs L 84 56 [v0, v1, v2, v3, v4, .int x] st h = zev xs L 84 58 [v0, v1, v2, v3, v4, .int x] (.int x :: st) h := zq_il (by decide +kernel : decode (zco 84) 56 = .ok (.iload 5, 2)) rfl
theorem q84_58 {x : Int32} : zev xs L 84 58 [v0, v1, .int x, v3, v4, v5] st h = zev xs L 84 59 [v0, v1, .int x, v3, v4, v5] (.int x :: st) h := zq_iln (by decide +kernel : decode (zco 84) 58 = .ok (.iload_n 2, 1)) rfl
theorem q84_59 {x y : Int32} : zev xs L 84 59 ls (.int y :: .int x :: st) h = if x < y then zev xs L 84 62 ls st h else zev xs L 84 87 ls st h := (zq_ic2 (by decide +kernel : decode (zco 84) 59 = .ok (.if_icmp .ge 28, 3)) (by decide +kernel)).trans (zdge)
theorem q84_62 {x : Nat} : zev xs L 84 62 [.ref x, v1, v2, v3, v4, v5] st h = zev xs L 84 63 [.ref x, v1, v2, v3, v4, v5] (.ref x :: st) h := zq_aln (by decide +kernel : decode (zco 84) 62 = .ok (.aload_n 0, 1)) rfl
theorem q84_63 {a : Nat} : zev xs L 84 63 ls (.ref a :: st) h = (zget h a 7 4).bind (fun v => zev xs L 84 66 ls (v :: st) h) := zq_gf (by decide +kernel : decode (zco 84) 63 = .ok (.getfield 33, 3)) (by decide +kernel)
theorem q84_66 {x : Nat} : zev xs L 84 66 [.ref x, v1, v2, v3, v4, v5] st h = zev xs L 84 67 [.ref x, v1, v2, v3, v4, v5] (.ref x :: st) h := zq_aln (by decide +kernel : decode (zco 84) 66 = .ok (.aload_n 0, 1)) rfl
theorem q84_67 {a : Nat} : zev xs L 84 67 ls (.ref a :: st) h = (zget h a 7 1).bind (fun v => zev xs L 84 70 ls (v :: st) h) := zq_gf (by decide +kernel : decode (zco 84) 67 = .ok (.getfield 19, 3)) (by decide +kernel)
theorem q84_70 {x : Int32} : zev xs L 84 70 [v0, .int x, v2, v3, v4, v5] st h = zev xs L 84 71 [v0, .int x, v2, v3, v4, v5] (.int x :: st) h := zq_iln (by decide +kernel : decode (zco 84) 70 = .ok (.iload_n 1, 1)) rfl
theorem q84_71 {x : Int32} : zev xs L 84 71 [v0, v1, v2, v3, v4, .int x] st h = zev xs L 84 73 [v0, v1, v2, v3, v4, .int x] (.int x :: st) h := zq_il (by decide +kernel : decode (zco 84) 71 = .ok (.iload 5, 2)) rfl
theorem q84_73 {x y : Int32} : zev xs L 84 73 ls (.int y :: .int x :: st) h = zev xs L 84 74 ls (.int (x + y) :: st) h := zq_iadd (by decide +kernel : decode (zco 84) 73 = .ok (.iadd, 1))
theorem q84_74 : zev xs L 84 74 ls st h = zev xs L 84 77 ls (.int (nI 10000) :: st) h := zq_si (by decide +kernel : decode (zco 84) 74 = .ok (.sipush 10000, 3)) rfl
theorem q84_77 {x y : Int32} : zev xs L 84 77 ls (.int y :: .int x :: st) h = if y = 0 then none else zev xs L 84 78 ls (.int (x - x / y * y) :: st) h := zq_irm (by decide +kernel : decode (zco 84) 77 = .ok (.irem, 1))
theorem q84_78 {a : Nat} {x0 : Nat} {x1 : Int32} (ht : ztag h a = some 1) : zev xs L 84 78 ls [.int x1, .ref x0, .ref a] h = (zev xs L 16 0 [.ref a, .ref x0, .int x1, .null, .null, .null] [] h).bind (fun q => zev xs L 84 81 ls (q.1.toList ++ []) q.2) := zq_call (av := [.ref a, .ref x0, .int x1]) (rest := []) (n := 3) (k := 6) (J := []) (i := .invokevirtual 169) (by decide +kernel : decode (zco 84) 78 = .ok (.invokevirtual 169, 3)) rfl (by decide +kernel) (by decide +kernel) (Nat.le_of_ble_eq_true rfl) rfl rfl rfl rfl (Or.inr (Or.inr ⟨_, _, rfl, Or.inr (Or.inr ⟨rfl, ht⟩)⟩))
theorem q84_81 {x : Int32} : zev xs L 84 81 [v0, v1, v2, v3, v4, .int x] st h = zev xs L 84 84 [v0, v1, v2, v3, v4, .int (x + nI 1)] st h := zq_inc (by decide +kernel : decode (zco 84) 81 = .ok (.iinc 5 1, 3)) rfl (by decide +kernel) (zn_1 x) rfl
theorem q84_84 : zev xs L 84 84 ls st h = zev xs L 84 56 ls st h := zq_go (by decide +kernel : decode (zco 84) 84 = .ok (.goto (-28), 3)) (by decide +kernel)
theorem q84_87 {x : Int32} : zev xs L 84 87 [v0, v1, v2, v3, .int x, v5] st h = zev xs L 84 89 [v0, v1, v2, v3, .int x, v5] (.int x :: st) h := zq_il (by decide +kernel : decode (zco 84) 87 = .ok (.iload 4, 2)) rfl
theorem q84_89 : zev xs L 84 89 ls st h = zev xs L 84 90 ls (.int ((-1)) :: st) h := zq_ic (by decide +kernel : decode (zco 84) 89 = .ok (.iconst (-1), 1)) rfl
theorem q84_90 {x y : Int32} : zev xs L 84 90 ls (.int y :: .int x :: st) h = if x = y then zev xs L 84 93 ls st h else zev xs L 84 105 ls st h := (zq_ic2 (by decide +kernel : decode (zco 84) 90 = .ok (.if_icmp .ne 15, 3)) (by decide +kernel)).trans (zdecn rfl)
theorem q84_93 {x : Nat} : zev xs L 84 93 [.ref x, v1, v2, v3, v4, v5] st h = zev xs L 84 94 [.ref x, v1, v2, v3, v4, v5] (.ref x :: st) h := zq_aln (by decide +kernel : decode (zco 84) 93 = .ok (.aload_n 0, 1)) rfl
theorem q84_94 {a : Nat} : zev xs L 84 94 ls (.ref a :: st) h = (zget h a 7 4).bind (fun v => zev xs L 84 97 ls (v :: st) h) := zq_gf (by decide +kernel : decode (zco 84) 94 = .ok (.getfield 33, 3)) (by decide +kernel)
theorem q84_97 {a : Nat} : zev xs L 84 97 ls (.ref a :: st) h = (zget h a 1 4).bind (fun v => zev xs L 84 100 ls (v :: st) h) := zq_gf (by decide +kernel : decode (zco 84) 97 = .ok (.getfield 123, 3)) (by decide +kernel)
theorem q84_100 {x : Int32} : zev xs L 84 100 [v0, v1, v2, .int x, v4, v5] st h = zev xs L 84 101 [v0, v1, v2, .int x, v4, v5] (.int x :: st) h := zq_iln (by decide +kernel : decode (zco 84) 100 = .ok (.iload_n 3, 1)) rfl
theorem q84_101 {x : Int32} {a : Nat} : zev xs L 84 101 ls (.int x :: .ref a :: st) h = (zaldI h 20 a x).bind (fun x => zev xs L 84 102 ls (.int x :: st) h) := zq_ia (by decide +kernel : decode (zco 84) 101 = .ok (.iaload, 1))
theorem q84_102 : zev xs L 84 102 ls st h = zev xs L 84 115 ls st h := zq_go (by decide +kernel : decode (zco 84) 102 = .ok (.goto 13, 3)) (by decide +kernel)
theorem q84_105 {x : Nat} : zev xs L 84 105 [.ref x, v1, v2, v3, v4, v5] st h = zev xs L 84 106 [.ref x, v1, v2, v3, v4, v5] (.ref x :: st) h := zq_aln (by decide +kernel : decode (zco 84) 105 = .ok (.aload_n 0, 1)) rfl
theorem q84_106 {a : Nat} : zev xs L 84 106 ls (.ref a :: st) h = (zget h a 7 4).bind (fun v => zev xs L 84 109 ls (v :: st) h) := zq_gf (by decide +kernel : decode (zco 84) 106 = .ok (.getfield 33, 3)) (by decide +kernel)
theorem q84_109 {x : Int32} : zev xs L 84 109 [v0, v1, v2, .int x, v4, v5] st h = zev xs L 84 110 [v0, v1, v2, .int x, v4, v5] (.int x :: st) h := zq_iln (by decide +kernel : decode (zco 84) 109 = .ok (.iload_n 3, 1)) rfl
theorem q84_110 {x : Int32} : zev xs L 84 110 [v0, v1, v2, v3, .int x, v5] st h = zev xs L 84 112 [v0, v1, v2, v3, .int x, v5] (.int x :: st) h := zq_il (by decide +kernel : decode (zco 84) 110 = .ok (.iload 4, 2)) rfl
theorem q84_112 {a : Nat} {x0 : Int32} {x1 : Int32} (ht : ztag h a = some 1) : zev xs L 84 112 ls [.int x1, .int x0, .ref a] h = (zev xs L 19 0 [.ref a, .int x0, .int x1] [] h).bind (fun q => zev xs L 84 115 ls (q.1.toList ++ []) q.2) := zq_call (av := [.ref a, .int x0, .int x1]) (rest := []) (n := 3) (k := 3) (J := []) (i := .invokevirtual 139) (by decide +kernel : decode (zco 84) 112 = .ok (.invokevirtual 139, 3)) rfl (by decide +kernel) (by decide +kernel) (Nat.le_of_ble_eq_true rfl) rfl rfl rfl rfl (Or.inr (Or.inr ⟨_, _, rfl, Or.inr (Or.inr ⟨rfl, ht⟩)⟩))
theorem q84_115 {x : Int32} : zev xs L 84 115 ls [.int x] h = some (some (.int x), h) := zq_ri (by decide +kernel : decode (zco 84) 115 = .ok (.ireturn, 1)) (by decide +kernel)
end
/- X7_keep -/
section
variable {xs : Nat → Int32} {L : Nat} {ls st : List Value} {h : ZH} {v0 : Value} 
theorem q85_0 {x : Nat} : zev xs L 85 0 [.ref x] st h = zev xs L 85 1 [.ref x] (.ref x :: st) h := zq_aln (by decide +kernel : decode (zco 85) 0 = .ok (.aload_n 0, 1)) rfl
theorem q85_1 {a : Nat} : zev xs L 85 1 ls (.ref a :: st) h = (zget h a 7 6).bind (fun v => zev xs L 85 4 ls (v :: st) h) := zq_gf (by decide +kernel : decode (zco 85) 1 = .ok (.getfield 45, 3)) (by decide +kernel)
theorem q85_4 {a : Nat} : zev xs L 85 4 ls (.ref a :: st) h = (zget h a 2 1).bind (fun v => zev xs L 85 7 ls (v :: st) h) := zq_gf (by decide +kernel : decode (zco 85) 4 = .ok (.getfield 100, 3)) (by decide +kernel)
theorem q85_7 : zev xs L 85 7 ls st h = zev xs L 85 8 ls (.int (nI 2) :: st) h := zq_ic (by decide +kernel : decode (zco 85) 7 = .ok (.iconst 2, 1)) rfl
theorem q85_8 {x y : Int32} : zev xs L 85 8 ls (.int y :: .int x :: st) h = if x < y then zev xs L 85 14 ls st h else zev xs L 85 11 ls st h := (zq_ic2 (by decide +kernel : decode (zco 85) 8 = .ok (.if_icmp .lt 6, 3)) (by decide +kernel)).trans (zdec rfl)
theorem q85_11 : zev xs L 85 11 ls st h = zev xs L 85 13 ls (.int ((-3)) :: st) h := zq_bi (by decide +kernel : decode (zco 85) 11 = .ok (.bipush (-3), 2)) rfl
theorem q85_13 {x : Int32} : zev xs L 85 13 ls [.int x] h = some (some (.int x), h) := zq_ri (by decide +kernel : decode (zco 85) 13 = .ok (.ireturn, 1)) (by decide +kernel)
theorem q85_14 {x : Nat} : zev xs L 85 14 [.ref x] st h = zev xs L 85 15 [.ref x] (.ref x :: st) h := zq_aln (by decide +kernel : decode (zco 85) 14 = .ok (.aload_n 0, 1)) rfl
theorem q85_15 {a : Nat} : zev xs L 85 15 ls (.ref a :: st) h = (zget h a 7 6).bind (fun v => zev xs L 85 18 ls (v :: st) h) := zq_gf (by decide +kernel : decode (zco 85) 15 = .ok (.getfield 45, 3)) (by decide +kernel)
theorem q85_18 {x : Nat} : zev xs L 85 18 [.ref x] st h = zev xs L 85 19 [.ref x] (.ref x :: st) h := zq_aln (by decide +kernel : decode (zco 85) 18 = .ok (.aload_n 0, 1)) rfl
theorem q85_19 {a : Nat} : zev xs L 85 19 ls (.ref a :: st) h = (zget h a 7 3).bind (fun v => zev xs L 85 22 ls (v :: st) h) := zq_gf (by decide +kernel : decode (zco 85) 19 = .ok (.getfield 29, 3)) (by decide +kernel)
theorem q85_22 {a : Nat} {x0 : Nat} (ht : ztag h a = some 2) : zev xs L 85 22 ls [.ref x0, .ref a] h = (zev xs L 22 0 [.ref a, .ref x0] [] h).bind (fun q => zev xs L 85 25 ls (q.1.toList ++ []) q.2) := zq_call (av := [.ref a, .ref x0]) (rest := []) (n := 2) (k := 2) (J := []) (i := .invokevirtual 165) (by decide +kernel : decode (zco 85) 22 = .ok (.invokevirtual 165, 3)) rfl (by decide +kernel) (by decide +kernel) (Nat.le_of_ble_eq_true rfl) rfl rfl rfl rfl (Or.inr (Or.inr ⟨_, _, rfl, Or.inr (Or.inr ⟨rfl, ht⟩)⟩))
theorem q85_25 {x : Nat} : zev xs L 85 25 [.ref x] st h = zev xs L 85 26 [.ref x] (.ref x :: st) h := zq_aln (by decide +kernel : decode (zco 85) 25 = .ok (.aload_n 0, 1)) rfl
theorem q85_26 {a : Nat} : zev xs L 85 26 ls (.ref a :: st) h = (zget h a 7 6).bind (fun v => zev xs L 85 29 ls (v :: st) h) := zq_gf (by decide +kernel : decode (zco 85) 26 = .ok (.getfield 45, 3)) (by decide +kernel)
theorem q85_29 {a : Nat} : zev xs L 85 29 ls (.ref a :: st) h = (zget h a 2 1).bind (fun v => zev xs L 85 32 ls (v :: st) h) := zq_gf (by decide +kernel : decode (zco 85) 29 = .ok (.getfield 100, 3)) (by decide +kernel)
theorem q85_32 {x : Int32} : zev xs L 85 32 ls [.int x] h = some (some (.int x), h) := zq_ri (by decide +kernel : decode (zco 85) 32 = .ok (.ireturn, 1)) (by decide +kernel)
end
/- X7_back -/
section
variable {xs : Nat → Int32} {L : Nat} {ls st : List Value} {h : ZH} {v0 : Value} 
theorem q86_0 {x : Nat} : zev xs L 86 0 [.ref x] st h = zev xs L 86 1 [.ref x] (.ref x :: st) h := zq_aln (by decide +kernel : decode (zco 86) 0 = .ok (.aload_n 0, 1)) rfl
theorem q86_1 {a : Nat} : zev xs L 86 1 ls (.ref a :: st) h = (zget h a 7 6).bind (fun v => zev xs L 86 4 ls (v :: st) h) := zq_gf (by decide +kernel : decode (zco 86) 1 = .ok (.getfield 45, 3)) (by decide +kernel)
theorem q86_4 {x : Nat} : zev xs L 86 4 [.ref x] st h = zev xs L 86 5 [.ref x] (.ref x :: st) h := zq_aln (by decide +kernel : decode (zco 86) 4 = .ok (.aload_n 0, 1)) rfl
theorem q86_5 {a : Nat} : zev xs L 86 5 ls (.ref a :: st) h = (zget h a 7 3).bind (fun v => zev xs L 86 8 ls (v :: st) h) := zq_gf (by decide +kernel : decode (zco 86) 5 = .ok (.getfield 29, 3)) (by decide +kernel)
theorem q86_8 {a : Nat} {x0 : Nat} (ht : ztag h a = some 2) : zev xs L 86 8 ls [.ref x0, .ref a] h = (zev xs L 24 0 [.ref a, .ref x0] [] h).bind (fun q => zev xs L 86 11 ls (q.1.toList ++ []) q.2) := zq_call (av := [.ref a, .ref x0]) (rest := []) (n := 2) (k := 2) (J := []) (i := .invokevirtual 193) (by decide +kernel : decode (zco 86) 8 = .ok (.invokevirtual 193, 3)) rfl (by decide +kernel) (by decide +kernel) (Nat.le_of_ble_eq_true rfl) rfl rfl rfl rfl (Or.inr (Or.inr ⟨_, _, rfl, Or.inr (Or.inr ⟨rfl, ht⟩)⟩))
theorem q86_11 {x : Int32} : zev xs L 86 11 ls (.int x :: st) h = if x = 0 then zev xs L 86 14 ls st h else zev xs L 86 17 ls st h := (zq_if (by decide +kernel : decode (zco 86) 11 = .ok (.ifCond .ne 6, 3)) (by decide +kernel)).trans (zdecn rfl)
theorem q86_14 : zev xs L 86 14 ls st h = zev xs L 86 16 ls (.int ((-2)) :: st) h := zq_bi (by decide +kernel : decode (zco 86) 14 = .ok (.bipush (-2), 2)) rfl
theorem q86_16 {x : Int32} : zev xs L 86 16 ls [.int x] h = some (some (.int x), h) := zq_ri (by decide +kernel : decode (zco 86) 16 = .ok (.ireturn, 1)) (by decide +kernel)
theorem q86_17 {x : Nat} : zev xs L 86 17 [.ref x] st h = zev xs L 86 18 [.ref x] (.ref x :: st) h := zq_aln (by decide +kernel : decode (zco 86) 17 = .ok (.aload_n 0, 1)) rfl
theorem q86_18 {a : Nat} : zev xs L 86 18 ls (.ref a :: st) h = (zget h a 7 5).bind (fun v => zev xs L 86 21 ls (v :: st) h) := zq_gf (by decide +kernel : decode (zco 86) 18 = .ok (.getfield 41, 3)) (by decide +kernel)
theorem q86_21 : zev xs L 86 21 ls st h = zev xs L 86 22 ls (.int (nI 0) :: st) h := zq_ic (by decide +kernel : decode (zco 86) 21 = .ok (.iconst 0, 1)) rfl
theorem q86_22 {x : Int32} {a : Nat} : zev xs L 86 22 ls (.int x :: .ref a :: st) h = (zput h a 2 1 (.int x)).bind (fun h => zev xs L 86 25 ls st h) := zq_pfi (by decide +kernel : decode (zco 86) 22 = .ok (.putfield 100, 3)) (by decide +kernel) (by decide +kernel)
theorem q86_25 {x : Nat} : zev xs L 86 25 [.ref x] st h = zev xs L 86 26 [.ref x] (.ref x :: st) h := zq_aln (by decide +kernel : decode (zco 86) 25 = .ok (.aload_n 0, 1)) rfl
theorem q86_26 {a : Nat} : zev xs L 86 26 ls (.ref a :: st) h = (zget h a 7 6).bind (fun v => zev xs L 86 29 ls (v :: st) h) := zq_gf (by decide +kernel : decode (zco 86) 26 = .ok (.getfield 45, 3)) (by decide +kernel)
theorem q86_29 {a : Nat} : zev xs L 86 29 ls (.ref a :: st) h = (zget h a 2 1).bind (fun v => zev xs L 86 32 ls (v :: st) h) := zq_gf (by decide +kernel : decode (zco 86) 29 = .ok (.getfield 100, 3)) (by decide +kernel)
theorem q86_32 {x : Int32} : zev xs L 86 32 ls [.int x] h = some (some (.int x), h) := zq_ri (by decide +kernel : decode (zco 86) 32 = .ok (.ireturn, 1)) (by decide +kernel)
end
/- X7_count -/
section
variable {xs : Nat → Int32} {L : Nat} {ls st : List Value} {h : ZH} {v0 v1 : Value} 
theorem q87_0 {x : Int32} : zev xs L 87 0 [v0, .int x] st h = zev xs L 87 1 [v0, .int x] (.int x :: st) h := zq_iln (by decide +kernel : decode (zco 87) 0 = .ok (.iload_n 1, 1)) rfl
theorem q87_1_0 : zev xs L 87 1 ls (.int (nI 0) :: st) h = zev xs L 87 48 ls st h := zq_tab (by decide +kernel : decode (zco 87) 1 = .ok (.tableswitch 111 0 7 #[47, 55, 63, 71, 79, 87, 95, 103], 47)) (off := 47) rfl (by decide +kernel)
theorem q87_1_1 : zev xs L 87 1 ls (.int (nI 1) :: st) h = zev xs L 87 56 ls st h := zq_tab (by decide +kernel : decode (zco 87) 1 = .ok (.tableswitch 111 0 7 #[47, 55, 63, 71, 79, 87, 95, 103], 47)) (off := 55) rfl (by decide +kernel)
theorem q87_1_2 : zev xs L 87 1 ls (.int (nI 2) :: st) h = zev xs L 87 64 ls st h := zq_tab (by decide +kernel : decode (zco 87) 1 = .ok (.tableswitch 111 0 7 #[47, 55, 63, 71, 79, 87, 95, 103], 47)) (off := 63) rfl (by decide +kernel)
theorem q87_1_3 : zev xs L 87 1 ls (.int (nI 3) :: st) h = zev xs L 87 72 ls st h := zq_tab (by decide +kernel : decode (zco 87) 1 = .ok (.tableswitch 111 0 7 #[47, 55, 63, 71, 79, 87, 95, 103], 47)) (off := 71) rfl (by decide +kernel)
theorem q87_1_4 : zev xs L 87 1 ls (.int (nI 4) :: st) h = zev xs L 87 80 ls st h := zq_tab (by decide +kernel : decode (zco 87) 1 = .ok (.tableswitch 111 0 7 #[47, 55, 63, 71, 79, 87, 95, 103], 47)) (off := 79) rfl (by decide +kernel)
theorem q87_1_5 : zev xs L 87 1 ls (.int (nI 5) :: st) h = zev xs L 87 88 ls st h := zq_tab (by decide +kernel : decode (zco 87) 1 = .ok (.tableswitch 111 0 7 #[47, 55, 63, 71, 79, 87, 95, 103], 47)) (off := 87) rfl (by decide +kernel)
theorem q87_1_6 : zev xs L 87 1 ls (.int (nI 6) :: st) h = zev xs L 87 96 ls st h := zq_tab (by decide +kernel : decode (zco 87) 1 = .ok (.tableswitch 111 0 7 #[47, 55, 63, 71, 79, 87, 95, 103], 47)) (off := 95) rfl (by decide +kernel)
theorem q87_1_7 : zev xs L 87 1 ls (.int (nI 7) :: st) h = zev xs L 87 104 ls st h := zq_tab (by decide +kernel : decode (zco 87) 1 = .ok (.tableswitch 111 0 7 #[47, 55, 63, 71, 79, 87, 95, 103], 47)) (off := 103) rfl (by decide +kernel)
theorem q87_1_d {x : Int32} (hx : x.toInt < 0 ∨ 7 < x.toInt) : zev xs L 87 1 ls (.int x :: st) h = zev xs L 87 112 ls st h := zq_tab (by decide +kernel : decode (zco 87) 1 = .ok (.tableswitch 111 0 7 #[47, 55, 63, 71, 79, 87, 95, 103], 47)) (off := 111) (if_pos hx) (by decide +kernel)
theorem q87_48 {x : Nat} : zev xs L 87 48 [.ref x, v1] st h = zev xs L 87 49 [.ref x, v1] (.ref x :: st) h := zq_aln (by decide +kernel : decode (zco 87) 48 = .ok (.aload_n 0, 1)) rfl
theorem q87_49 {a : Nat} : zev xs L 87 49 ls (.ref a :: st) h = (zget h a 7 1).bind (fun v => zev xs L 87 52 ls (v :: st) h) := zq_gf (by decide +kernel : decode (zco 87) 49 = .ok (.getfield 19, 3)) (by decide +kernel)
theorem q87_52 {a : Nat} : zev xs L 87 52 ls (.ref a :: st) h = (zget h a 5 1).bind (fun v => zev xs L 87 55 ls (v :: st) h) := zq_gf (by decide +kernel : decode (zco 87) 52 = .ok (.getfield 106, 3)) (by decide +kernel)
theorem q87_55 {x : Int32} : zev xs L 87 55 ls [.int x] h = some (some (.int x), h) := zq_ri (by decide +kernel : decode (zco 87) 55 = .ok (.ireturn, 1)) (by decide +kernel)
theorem q87_56 {x : Nat} : zev xs L 87 56 [.ref x, v1] st h = zev xs L 87 57 [.ref x, v1] (.ref x :: st) h := zq_aln (by decide +kernel : decode (zco 87) 56 = .ok (.aload_n 0, 1)) rfl
theorem q87_57 {a : Nat} : zev xs L 87 57 ls (.ref a :: st) h = (zget h a 7 1).bind (fun v => zev xs L 87 60 ls (v :: st) h) := zq_gf (by decide +kernel : decode (zco 87) 57 = .ok (.getfield 19, 3)) (by decide +kernel)
theorem q87_60 {a : Nat} : zev xs L 87 60 ls (.ref a :: st) h = (zget h a 5 0).bind (fun v => zev xs L 87 63 ls (v :: st) h) := zq_gf (by decide +kernel : decode (zco 87) 60 = .ok (.getfield 254, 3)) (by decide +kernel)
theorem q87_63 {x : Int32} : zev xs L 87 63 ls [.int x] h = some (some (.int x), h) := zq_ri (by decide +kernel : decode (zco 87) 63 = .ok (.ireturn, 1)) (by decide +kernel)
theorem q87_64 {x : Nat} : zev xs L 87 64 [.ref x, v1] st h = zev xs L 87 65 [.ref x, v1] (.ref x :: st) h := zq_aln (by decide +kernel : decode (zco 87) 64 = .ok (.aload_n 0, 1)) rfl
theorem q87_65 {a : Nat} : zev xs L 87 65 ls (.ref a :: st) h = (zget h a 7 3).bind (fun v => zev xs L 87 68 ls (v :: st) h) := zq_gf (by decide +kernel : decode (zco 87) 65 = .ok (.getfield 29, 3)) (by decide +kernel)
theorem q87_68 {a : Nat} : zev xs L 87 68 ls (.ref a :: st) h = (zget h a 1 0).bind (fun v => zev xs L 87 71 ls (v :: st) h) := zq_gf (by decide +kernel : decode (zco 87) 68 = .ok (.getfield 162, 3)) (by decide +kernel)
theorem q87_71 {x : Int32} : zev xs L 87 71 ls [.int x] h = some (some (.int x), h) := zq_ri (by decide +kernel : decode (zco 87) 71 = .ok (.ireturn, 1)) (by decide +kernel)
theorem q87_72 {x : Nat} : zev xs L 87 72 [.ref x, v1] st h = zev xs L 87 73 [.ref x, v1] (.ref x :: st) h := zq_aln (by decide +kernel : decode (zco 87) 72 = .ok (.aload_n 0, 1)) rfl
theorem q87_73 {a : Nat} : zev xs L 87 73 ls (.ref a :: st) h = (zget h a 7 3).bind (fun v => zev xs L 87 76 ls (v :: st) h) := zq_gf (by decide +kernel : decode (zco 87) 73 = .ok (.getfield 29, 3)) (by decide +kernel)
theorem q87_76 {a : Nat} (ht : ztag h a = some 1) : zev xs L 87 76 ls [.ref a] h = (zev xs L 20 0 [.ref a] [] h).bind (fun q => zev xs L 87 79 ls (q.1.toList ++ []) q.2) := zq_call (av := [.ref a]) (rest := []) (n := 1) (k := 1) (J := []) (i := .invokevirtual 189) (by decide +kernel : decode (zco 87) 76 = .ok (.invokevirtual 189, 3)) rfl (by decide +kernel) (by decide +kernel) (Nat.le_of_ble_eq_true rfl) rfl rfl rfl rfl (Or.inr (Or.inr ⟨_, _, rfl, Or.inr (Or.inr ⟨rfl, ht⟩)⟩))
theorem q87_79 {x : Int32} : zev xs L 87 79 ls [.int x] h = some (some (.int x), h) := zq_ri (by decide +kernel : decode (zco 87) 79 = .ok (.ireturn, 1)) (by decide +kernel)
theorem q87_80 {x : Nat} : zev xs L 87 80 [.ref x, v1] st h = zev xs L 87 81 [.ref x, v1] (.ref x :: st) h := zq_aln (by decide +kernel : decode (zco 87) 80 = .ok (.aload_n 0, 1)) rfl
theorem q87_81 {a : Nat} : zev xs L 87 81 ls (.ref a :: st) h = (zget h a 7 7).bind (fun v => zev xs L 87 84 ls (v :: st) h) := zq_gf (by decide +kernel : decode (zco 87) 81 = .ok (.getfield 51, 3)) (by decide +kernel)
theorem q87_84 {a : Nat} : zev xs L 87 84 ls (.ref a :: st) h = (zget h a 3 2).bind (fun v => zev xs L 87 87 ls (v :: st) h) := zq_gf (by decide +kernel : decode (zco 87) 84 = .ok (.getfield 239, 3)) (by decide +kernel)
theorem q87_87 {x : Int32} : zev xs L 87 87 ls [.int x] h = some (some (.int x), h) := zq_ri (by decide +kernel : decode (zco 87) 87 = .ok (.ireturn, 1)) (by decide +kernel)
theorem q87_88 {x : Nat} : zev xs L 87 88 [.ref x, v1] st h = zev xs L 87 89 [.ref x, v1] (.ref x :: st) h := zq_aln (by decide +kernel : decode (zco 87) 88 = .ok (.aload_n 0, 1)) rfl
theorem q87_89 {a : Nat} : zev xs L 87 89 ls (.ref a :: st) h = (zget h a 7 5).bind (fun v => zev xs L 87 92 ls (v :: st) h) := zq_gf (by decide +kernel : decode (zco 87) 89 = .ok (.getfield 41, 3)) (by decide +kernel)
theorem q87_92 {a : Nat} : zev xs L 87 92 ls (.ref a :: st) h = (zget h a 2 1).bind (fun v => zev xs L 87 95 ls (v :: st) h) := zq_gf (by decide +kernel : decode (zco 87) 92 = .ok (.getfield 100, 3)) (by decide +kernel)
theorem q87_95 {x : Int32} : zev xs L 87 95 ls [.int x] h = some (some (.int x), h) := zq_ri (by decide +kernel : decode (zco 87) 95 = .ok (.ireturn, 1)) (by decide +kernel)
theorem q87_96 {x : Nat} : zev xs L 87 96 [.ref x, v1] st h = zev xs L 87 97 [.ref x, v1] (.ref x :: st) h := zq_aln (by decide +kernel : decode (zco 87) 96 = .ok (.aload_n 0, 1)) rfl
theorem q87_97 {a : Nat} : zev xs L 87 97 ls (.ref a :: st) h = (zget h a 7 6).bind (fun v => zev xs L 87 100 ls (v :: st) h) := zq_gf (by decide +kernel : decode (zco 87) 97 = .ok (.getfield 45, 3)) (by decide +kernel)
theorem q87_100 {a : Nat} : zev xs L 87 100 ls (.ref a :: st) h = (zget h a 2 1).bind (fun v => zev xs L 87 103 ls (v :: st) h) := zq_gf (by decide +kernel : decode (zco 87) 100 = .ok (.getfield 100, 3)) (by decide +kernel)
theorem q87_103 {x : Int32} : zev xs L 87 103 ls [.int x] h = some (some (.int x), h) := zq_ri (by decide +kernel : decode (zco 87) 103 = .ok (.ireturn, 1)) (by decide +kernel)
theorem q87_104 {x : Nat} : zev xs L 87 104 [.ref x, v1] st h = zev xs L 87 105 [.ref x, v1] (.ref x :: st) h := zq_aln (by decide +kernel : decode (zco 87) 104 = .ok (.aload_n 0, 1)) rfl
theorem q87_105 {a : Nat} : zev xs L 87 105 ls (.ref a :: st) h = (zget h a 7 0).bind (fun v => zev xs L 87 108 ls (v :: st) h) := zq_gf (by decide +kernel : decode (zco 87) 105 = .ok (.getfield 12, 3)) (by decide +kernel)
theorem q87_108 {a : Nat} : zev xs L 87 108 ls (.ref a :: st) h = (zget h a 4 1).bind (fun v => zev xs L 87 111 ls (v :: st) h) := zq_gf (by decide +kernel : decode (zco 87) 108 = .ok (.getfield 88, 3)) (by decide +kernel)
theorem q87_111 {x : Int32} : zev xs L 87 111 ls [.int x] h = some (some (.int x), h) := zq_ri (by decide +kernel : decode (zco 87) 111 = .ok (.ireturn, 1)) (by decide +kernel)
theorem q87_112 : zev xs L 87 112 ls st h = zev xs L 87 113 ls (.int ((-1)) :: st) h := zq_ic (by decide +kernel : decode (zco 87) 112 = .ok (.iconst (-1), 1)) rfl
theorem q87_113 {x : Int32} : zev xs L 87 113 ls [.int x] h = some (some (.int x), h) := zq_ri (by decide +kernel : decode (zco 87) 113 = .ok (.ireturn, 1)) (by decide +kernel)
end
/- X7_isPerson -/
section
variable {xs : Nat → Int32} {L : Nat} {ls st : List Value} {h : ZH} {v0 v1 : Value} 
theorem q88_0 {x : Int32} : zev xs L 88 0 [v0, .int x] st h = zev xs L 88 1 [v0, .int x] (.int x :: st) h := zq_iln (by decide +kernel : decode (zco 88) 0 = .ok (.iload_n 1, 1)) rfl
theorem q88_1 {x : Int32} : zev xs L 88 1 ls (.int x :: st) h = if x < 0 then zev xs L 88 19 ls st h else zev xs L 88 4 ls st h := (zq_if (by decide +kernel : decode (zco 88) 1 = .ok (.ifCond .lt 18, 3)) (by decide +kernel)).trans (zdec rfl)
theorem q88_4 {x : Int32} : zev xs L 88 4 [v0, .int x] st h = zev xs L 88 5 [v0, .int x] (.int x :: st) h := zq_iln (by decide +kernel : decode (zco 88) 4 = .ok (.iload_n 1, 1)) rfl
theorem q88_5 {x : Nat} : zev xs L 88 5 [.ref x, v1] st h = zev xs L 88 6 [.ref x, v1] (.ref x :: st) h := zq_aln (by decide +kernel : decode (zco 88) 5 = .ok (.aload_n 0, 1)) rfl
theorem q88_6 {a : Nat} : zev xs L 88 6 ls (.ref a :: st) h = (zget h a 7 1).bind (fun v => zev xs L 88 9 ls (v :: st) h) := zq_gf (by decide +kernel : decode (zco 88) 6 = .ok (.getfield 19, 3)) (by decide +kernel)
theorem q88_9 {a : Nat} : zev xs L 88 9 ls (.ref a :: st) h = (zget h a 5 1).bind (fun v => zev xs L 88 12 ls (v :: st) h) := zq_gf (by decide +kernel : decode (zco 88) 9 = .ok (.getfield 106, 3)) (by decide +kernel)
theorem q88_12 {x y : Int32} : zev xs L 88 12 ls (.int y :: .int x :: st) h = if x < y then zev xs L 88 15 ls st h else zev xs L 88 19 ls st h := (zq_ic2 (by decide +kernel : decode (zco 88) 12 = .ok (.if_icmp .ge 7, 3)) (by decide +kernel)).trans (zdge)
theorem q88_15 : zev xs L 88 15 ls st h = zev xs L 88 16 ls (.int (nI 1) :: st) h := zq_ic (by decide +kernel : decode (zco 88) 15 = .ok (.iconst 1, 1)) rfl
theorem q88_16 : zev xs L 88 16 ls st h = zev xs L 88 20 ls st h := zq_go (by decide +kernel : decode (zco 88) 16 = .ok (.goto 4, 3)) (by decide +kernel)
theorem q88_19 : zev xs L 88 19 ls st h = zev xs L 88 20 ls (.int (nI 0) :: st) h := zq_ic (by decide +kernel : decode (zco 88) 19 = .ok (.iconst 0, 1)) rfl
theorem q88_20 {x : Int32} : zev xs L 88 20 ls [.int x] h = if zbk x = true then some (some (.int x), h) else none := zq_rzi (by decide +kernel : decode (zco 88) 20 = .ok (.ireturn, 1)) (by decide +kernel)
end
/- X7_isMask -/
section
variable {xs : Nat → Int32} {L : Nat} {ls st : List Value} {h : ZH} {v0 v1 : Value} 
theorem q89_0 {x : Int32} : zev xs L 89 0 [v0, .int x] st h = zev xs L 89 1 [v0, .int x] (.int x :: st) h := zq_iln (by decide +kernel : decode (zco 89) 0 = .ok (.iload_n 1, 1)) rfl
theorem q89_1 {x : Int32} : zev xs L 89 1 ls (.int x :: st) h = if x < 0 then zev xs L 89 19 ls st h else zev xs L 89 4 ls st h := (zq_if (by decide +kernel : decode (zco 89) 1 = .ok (.ifCond .lt 18, 3)) (by decide +kernel)).trans (zdec rfl)
theorem q89_4 {x : Int32} : zev xs L 89 4 [v0, .int x] st h = zev xs L 89 5 [v0, .int x] (.int x :: st) h := zq_iln (by decide +kernel : decode (zco 89) 4 = .ok (.iload_n 1, 1)) rfl
theorem q89_5 {x : Nat} : zev xs L 89 5 [.ref x, v1] st h = zev xs L 89 6 [.ref x, v1] (.ref x :: st) h := zq_aln (by decide +kernel : decode (zco 89) 5 = .ok (.aload_n 0, 1)) rfl
theorem q89_6 {a : Nat} : zev xs L 89 6 ls (.ref a :: st) h = (zget h a 7 1).bind (fun v => zev xs L 89 9 ls (v :: st) h) := zq_gf (by decide +kernel : decode (zco 89) 6 = .ok (.getfield 19, 3)) (by decide +kernel)
theorem q89_9 {a : Nat} : zev xs L 89 9 ls (.ref a :: st) h = (zget h a 5 1).bind (fun v => zev xs L 89 12 ls (v :: st) h) := zq_gf (by decide +kernel : decode (zco 89) 9 = .ok (.getfield 106, 3)) (by decide +kernel)
theorem q89_12 {x y : Int32} : zev xs L 89 12 ls (.int y :: .int x :: st) h = if x < y then zev xs L 89 15 ls st h else zev xs L 89 19 ls st h := (zq_ic2 (by decide +kernel : decode (zco 89) 12 = .ok (.if_icmp .ge 7, 3)) (by decide +kernel)).trans (zdge)
theorem q89_15 : zev xs L 89 15 ls st h = zev xs L 89 16 ls (.int (nI 1) :: st) h := zq_ic (by decide +kernel : decode (zco 89) 15 = .ok (.iconst 1, 1)) rfl
theorem q89_16 : zev xs L 89 16 ls st h = zev xs L 89 20 ls st h := zq_go (by decide +kernel : decode (zco 89) 16 = .ok (.goto 4, 3)) (by decide +kernel)
theorem q89_19 : zev xs L 89 19 ls st h = zev xs L 89 20 ls (.int (nI 0) :: st) h := zq_ic (by decide +kernel : decode (zco 89) 19 = .ok (.iconst 0, 1)) rfl
theorem q89_20 {x : Int32} : zev xs L 89 20 ls [.int x] h = if zbk x = true then some (some (.int x), h) else none := zq_rzi (by decide +kernel : decode (zco 89) 20 = .ok (.ireturn, 1)) (by decide +kernel)
end
/- X7_isKind -/
section
variable {xs : Nat → Int32} {L : Nat} {ls st : List Value} {h : ZH} {v0 v1 : Value} 
theorem q90_0 {x : Int32} : zev xs L 90 0 [v0, .int x] st h = zev xs L 90 1 [v0, .int x] (.int x :: st) h := zq_iln (by decide +kernel : decode (zco 90) 0 = .ok (.iload_n 1, 1)) rfl
theorem q90_1 {x : Int32} : zev xs L 90 1 ls (.int x :: st) h = if x < 0 then zev xs L 90 19 ls st h else zev xs L 90 4 ls st h := (zq_if (by decide +kernel : decode (zco 90) 1 = .ok (.ifCond .lt 18, 3)) (by decide +kernel)).trans (zdec rfl)
theorem q90_4 {x : Int32} : zev xs L 90 4 [v0, .int x] st h = zev xs L 90 5 [v0, .int x] (.int x :: st) h := zq_iln (by decide +kernel : decode (zco 90) 4 = .ok (.iload_n 1, 1)) rfl
theorem q90_5 {x : Nat} : zev xs L 90 5 [.ref x, v1] st h = zev xs L 90 6 [.ref x, v1] (.ref x :: st) h := zq_aln (by decide +kernel : decode (zco 90) 5 = .ok (.aload_n 0, 1)) rfl
theorem q90_6 {a : Nat} : zev xs L 90 6 ls (.ref a :: st) h = (zget h a 7 1).bind (fun v => zev xs L 90 9 ls (v :: st) h) := zq_gf (by decide +kernel : decode (zco 90) 6 = .ok (.getfield 19, 3)) (by decide +kernel)
theorem q90_9 {a : Nat} : zev xs L 90 9 ls (.ref a :: st) h = (zget h a 5 0).bind (fun v => zev xs L 90 12 ls (v :: st) h) := zq_gf (by decide +kernel : decode (zco 90) 9 = .ok (.getfield 254, 3)) (by decide +kernel)
theorem q90_12 {x y : Int32} : zev xs L 90 12 ls (.int y :: .int x :: st) h = if x < y then zev xs L 90 15 ls st h else zev xs L 90 19 ls st h := (zq_ic2 (by decide +kernel : decode (zco 90) 12 = .ok (.if_icmp .ge 7, 3)) (by decide +kernel)).trans (zdge)
theorem q90_15 : zev xs L 90 15 ls st h = zev xs L 90 16 ls (.int (nI 1) :: st) h := zq_ic (by decide +kernel : decode (zco 90) 15 = .ok (.iconst 1, 1)) rfl
theorem q90_16 : zev xs L 90 16 ls st h = zev xs L 90 20 ls st h := zq_go (by decide +kernel : decode (zco 90) 16 = .ok (.goto 4, 3)) (by decide +kernel)
theorem q90_19 : zev xs L 90 19 ls st h = zev xs L 90 20 ls (.int (nI 0) :: st) h := zq_ic (by decide +kernel : decode (zco 90) 19 = .ok (.iconst 0, 1)) rfl
theorem q90_20 {x : Int32} : zev xs L 90 20 ls [.int x] h = if zbk x = true then some (some (.int x), h) else none := zq_rzi (by decide +kernel : decode (zco 90) 20 = .ok (.ireturn, 1)) (by decide +kernel)
end
