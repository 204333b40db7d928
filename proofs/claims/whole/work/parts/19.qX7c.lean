/- X7_isDeed -/
section
variable {xs : Nat → Int32} {L : Nat} {ls st : List Value} {h : ZH} {v0 : Value} 
theorem q91_0 {x : Int32} : zev xs L 91 0 [.int x] st h = zev xs L 91 1 [.int x] (.int x :: st) h := zq_iln (by decide +kernel : decode (zco 91) 0 = .ok (.iload_n 0, 1)) rfl
theorem q91_1 {x : Int32} : zev xs L 91 1 ls (.int x :: st) h = if x < 0 then zev xs L 91 14 ls st h else zev xs L 91 4 ls st h := (zq_if (by decide +kernel : decode (zco 91) 1 = .ok (.ifCond .lt 13, 3)) (by decide +kernel)).trans (zdec rfl)
theorem q91_4 {x : Int32} : zev xs L 91 4 [.int x] st h = zev xs L 91 5 [.int x] (.int x :: st) h := zq_iln (by decide +kernel : decode (zco 91) 4 = .ok (.iload_n 0, 1)) rfl
theorem q91_5 : zev xs L 91 5 ls st h = zev xs L 91 7 ls (.int (nI 6) :: st) h := zq_bi (by decide +kernel : decode (zco 91) 5 = .ok (.bipush 6, 2)) rfl
theorem q91_7 {x y : Int32} : zev xs L 91 7 ls (.int y :: .int x :: st) h = if x < y then zev xs L 91 10 ls st h else zev xs L 91 14 ls st h := (zq_ic2 (by decide +kernel : decode (zco 91) 7 = .ok (.if_icmp .ge 7, 3)) (by decide +kernel)).trans (zdge)
theorem q91_10 : zev xs L 91 10 ls st h = zev xs L 91 11 ls (.int (nI 1) :: st) h := zq_ic (by decide +kernel : decode (zco 91) 10 = .ok (.iconst 1, 1)) rfl
theorem q91_11 : zev xs L 91 11 ls st h = zev xs L 91 15 ls st h := zq_go (by decide +kernel : decode (zco 91) 11 = .ok (.goto 4, 3)) (by decide +kernel)
theorem q91_14 : zev xs L 91 14 ls st h = zev xs L 91 15 ls (.int (nI 0) :: st) h := zq_ic (by decide +kernel : decode (zco 91) 14 = .ok (.iconst 0, 1)) rfl
theorem q91_15 {x : Int32} : zev xs L 91 15 ls [.int x] h = if zbk x = true then some (some (.int x), h) else none := zq_rzi (by decide +kernel : decode (zco 91) 15 = .ok (.ireturn, 1)) (by decide +kernel)
end
/- X7_isDraw -/
section
variable {xs : Nat → Int32} {L : Nat} {ls st : List Value} {h : ZH} {v0 : Value} 
theorem q92_0 {x : Int32} : zev xs L 92 0 [.int x] st h = zev xs L 92 1 [.int x] (.int x :: st) h := zq_iln (by decide +kernel : decode (zco 92) 0 = .ok (.iload_n 0, 1)) rfl
theorem q92_1 {x : Int32} : zev xs L 92 1 ls (.int x :: st) h = if x < 0 then zev xs L 92 15 ls st h else zev xs L 92 4 ls st h := (zq_if (by decide +kernel : decode (zco 92) 1 = .ok (.ifCond .lt 14, 3)) (by decide +kernel)).trans (zdec rfl)
theorem q92_4 {x : Int32} : zev xs L 92 4 [.int x] st h = zev xs L 92 5 [.int x] (.int x :: st) h := zq_iln (by decide +kernel : decode (zco 92) 4 = .ok (.iload_n 0, 1)) rfl
theorem q92_5 : zev xs L 92 5 ls st h = zev xs L 92 8 ls (.int (nI 10000) :: st) h := zq_si (by decide +kernel : decode (zco 92) 5 = .ok (.sipush 10000, 3)) rfl
theorem q92_8 {x y : Int32} : zev xs L 92 8 ls (.int y :: .int x :: st) h = if x < y then zev xs L 92 11 ls st h else zev xs L 92 15 ls st h := (zq_ic2 (by decide +kernel : decode (zco 92) 8 = .ok (.if_icmp .ge 7, 3)) (by decide +kernel)).trans (zdge)
theorem q92_11 : zev xs L 92 11 ls st h = zev xs L 92 12 ls (.int (nI 1) :: st) h := zq_ic (by decide +kernel : decode (zco 92) 11 = .ok (.iconst 1, 1)) rfl
theorem q92_12 : zev xs L 92 12 ls st h = zev xs L 92 16 ls st h := zq_go (by decide +kernel : decode (zco 92) 12 = .ok (.goto 4, 3)) (by decide +kernel)
theorem q92_15 : zev xs L 92 15 ls st h = zev xs L 92 16 ls (.int (nI 0) :: st) h := zq_ic (by decide +kernel : decode (zco 92) 15 = .ok (.iconst 0, 1)) rfl
theorem q92_16 {x : Int32} : zev xs L 92 16 ls [.int x] h = if zbk x = true then some (some (.int x), h) else none := zq_rzi (by decide +kernel : decode (zco 92) 16 = .ok (.ireturn, 1)) (by decide +kernel)
end
/- X7_isJudge -/
section
variable {xs : Nat → Int32} {L : Nat} {ls st : List Value} {h : ZH} {v0 v1 : Value} 
theorem q93_0 {x : Nat} : zev xs L 93 0 [.ref x, v1] st h = zev xs L 93 1 [.ref x, v1] (.ref x :: st) h := zq_aln (by decide +kernel : decode (zco 93) 0 = .ok (.aload_n 0, 1)) rfl
theorem q93_1 {a : Nat} : zev xs L 93 1 ls (.ref a :: st) h = (zget h a 7 3).bind (fun v => zev xs L 93 4 ls (v :: st) h) := zq_gf (by decide +kernel : decode (zco 93) 1 = .ok (.getfield 29, 3)) (by decide +kernel)
theorem q93_4 {x : Int32} : zev xs L 93 4 [v0, .int x] st h = zev xs L 93 5 [v0, .int x] (.int x :: st) h := zq_iln (by decide +kernel : decode (zco 93) 4 = .ok (.iload_n 1, 1)) rfl
theorem q93_5 {a : Nat} {x0 : Int32} (ht : ztag h a = some 1) : zev xs L 93 5 ls [.int x0, .ref a] h = (zev xs L 18 0 [.ref a, .int x0] [] h).bind (fun q => zev xs L 93 8 ls (q.1.toList ++ []) q.2) := zq_call (av := [.ref a, .int x0]) (rest := []) (n := 2) (k := 2) (J := []) (i := .invokevirtual 119) (by decide +kernel : decode (zco 93) 5 = .ok (.invokevirtual 119, 3)) rfl (by decide +kernel) (by decide +kernel) (Nat.le_of_ble_eq_true rfl) rfl rfl rfl rfl (Or.inr (Or.inr ⟨_, _, rfl, Or.inr (Or.inr ⟨rfl, ht⟩)⟩))
theorem q93_8 {x : Int32} : zev xs L 93 8 ls (.int x :: st) h = if x = 0 then zev xs L 93 11 ls st h else zev xs L 93 15 ls st h := (zq_if (by decide +kernel : decode (zco 93) 8 = .ok (.ifCond .ne 7, 3)) (by decide +kernel)).trans (zdecn rfl)
theorem q93_11 : zev xs L 93 11 ls st h = zev xs L 93 12 ls (.int (nI 1) :: st) h := zq_ic (by decide +kernel : decode (zco 93) 11 = .ok (.iconst 1, 1)) rfl
theorem q93_12 : zev xs L 93 12 ls st h = zev xs L 93 16 ls st h := zq_go (by decide +kernel : decode (zco 93) 12 = .ok (.goto 4, 3)) (by decide +kernel)
theorem q93_15 : zev xs L 93 15 ls st h = zev xs L 93 16 ls (.int (nI 0) :: st) h := zq_ic (by decide +kernel : decode (zco 93) 15 = .ok (.iconst 0, 1)) rfl
theorem q93_16 {x : Int32} : zev xs L 93 16 ls [.int x] h = if zbk x = true then some (some (.int x), h) else none := zq_rzi (by decide +kernel : decode (zco 93) 16 = .ok (.ireturn, 1)) (by decide +kernel)
end
/- X7_mayChangeHands -/
section
variable {xs : Nat → Int32} {L : Nat} {ls st : List Value} {h : ZH} {v0 v1 : Value} 
theorem q94_0 {x : Nat} : zev xs L 94 0 [.ref x, v1] st h = zev xs L 94 1 [.ref x, v1] (.ref x :: st) h := zq_aln (by decide +kernel : decode (zco 94) 0 = .ok (.aload_n 0, 1)) rfl
theorem q94_1 {a : Nat} : zev xs L 94 1 ls (.ref a :: st) h = (zget h a 7 1).bind (fun v => zev xs L 94 4 ls (v :: st) h) := zq_gf (by decide +kernel : decode (zco 94) 1 = .ok (.getfield 19, 3)) (by decide +kernel)
theorem q94_4 {a : Nat} : zev xs L 94 4 ls (.ref a :: st) h = (zget h a 5 4).bind (fun v => zev xs L 94 7 ls (v :: st) h) := zq_gf (by decide +kernel : decode (zco 94) 4 = .ok (.getfield 263, 3)) (by decide +kernel)
theorem q94_7 {x : Nat} : zev xs L 94 7 [.ref x, v1] st h = zev xs L 94 8 [.ref x, v1] (.ref x :: st) h := zq_aln (by decide +kernel : decode (zco 94) 7 = .ok (.aload_n 0, 1)) rfl
theorem q94_8 {a : Nat} : zev xs L 94 8 ls (.ref a :: st) h = (zget h a 7 3).bind (fun v => zev xs L 94 11 ls (v :: st) h) := zq_gf (by decide +kernel : decode (zco 94) 8 = .ok (.getfield 29, 3)) (by decide +kernel)
theorem q94_11 {x : Int32} : zev xs L 94 11 [v0, .int x] st h = zev xs L 94 12 [v0, .int x] (.int x :: st) h := zq_iln (by decide +kernel : decode (zco 94) 11 = .ok (.iload_n 1, 1)) rfl
theorem q94_12 {a : Nat} {x0 : Int32} {r1 : Value} (ht : ztag h a = some 1) : zev xs L 94 12 ls [.int x0, .ref a, r1] h = (zev xs L 18 0 [.ref a, .int x0] [] h).bind (fun q => zev xs L 94 15 ls (q.1.toList ++ [r1]) q.2) := zq_call (av := [.ref a, .int x0]) (rest := [r1]) (n := 2) (k := 2) (J := []) (i := .invokevirtual 119) (by decide +kernel : decode (zco 94) 12 = .ok (.invokevirtual 119, 3)) rfl (by decide +kernel) (by decide +kernel) (Nat.le_of_ble_eq_true rfl) rfl rfl rfl rfl (Or.inr (Or.inr ⟨_, _, rfl, Or.inr (Or.inr ⟨rfl, ht⟩)⟩))
theorem q94_15 {x0 : Int32} {x1 : Int32} : zev xs L 94 15 ls [.int x1, .int x0] h = (zev xs L 97 0 [.int x0, .int x1] [] h).bind (fun q => zev xs L 94 18 ls (q.1.toList ++ []) q.2) := zq_call (av := [.int x0, .int x1]) (rest := []) (n := 2) (k := 2) (J := []) (i := .invokestatic 132) (by decide +kernel : decode (zco 94) 15 = .ok (.invokestatic 132, 3)) rfl (by decide +kernel) (by decide +kernel) (Nat.le_of_ble_eq_true rfl) rfl rfl rfl rfl (Or.inl rfl)
theorem q94_18 {x : Int32} : zev xs L 94 18 ls (.int x :: st) h = if x = 0 then zev xs L 94 21 ls st h else zev xs L 94 25 ls st h := (zq_if (by decide +kernel : decode (zco 94) 18 = .ok (.ifCond .ne 7, 3)) (by decide +kernel)).trans (zdecn rfl)
theorem q94_21 : zev xs L 94 21 ls st h = zev xs L 94 22 ls (.int (nI 1) :: st) h := zq_ic (by decide +kernel : decode (zco 94) 21 = .ok (.iconst 1, 1)) rfl
theorem q94_22 : zev xs L 94 22 ls st h = zev xs L 94 26 ls st h := zq_go (by decide +kernel : decode (zco 94) 22 = .ok (.goto 4, 3)) (by decide +kernel)
theorem q94_25 : zev xs L 94 25 ls st h = zev xs L 94 26 ls (.int (nI 0) :: st) h := zq_ic (by decide +kernel : decode (zco 94) 25 = .ok (.iconst 0, 1)) rfl
theorem q94_26 {x : Int32} : zev xs L 94 26 ls [.int x] h = if zbk x = true then some (some (.int x), h) else none := zq_rzi (by decide +kernel : decode (zco 94) 26 = .ok (.ireturn, 1)) (by decide +kernel)
end
/- X7_bestAnew -/
section
variable {xs : Nat → Int32} {L : Nat} {ls st : List Value} {h : ZH} {v0 v1 v2 v3 v4 v5 : Value} 
theorem q95_0 {x : Nat} : zev xs L 95 0 [.ref x, v1, v2, v3, v4, v5] st h = zev xs L 95 1 [.ref x, v1, v2, v3, v4, v5] (.ref x :: st) h := zq_aln (by decide +kernel : decode (zco 95) 0 = .ok (.aload_n 0, 1)) rfl
theorem q95_1 {a : Nat} : zev xs L 95 1 ls (.ref a :: st) h = (zget h a 7 8).bind (fun v => zev xs L 95 4 ls (v :: st) h) := zq_gf (by decide +kernel : decode (zco 95) 1 = .ok (.getfield 58, 3)) (by decide +kernel)
theorem q95_4 {x : Nat} : zev xs L 95 4 [.ref x, v1, v2, v3, v4, v5] st h = zev xs L 95 5 [.ref x, v1, v2, v3, v4, v5] (.ref x :: st) h := zq_aln (by decide +kernel : decode (zco 95) 4 = .ok (.aload_n 0, 1)) rfl
theorem q95_5 {a : Nat} : zev xs L 95 5 ls (.ref a :: st) h = (zget h a 7 1).bind (fun v => zev xs L 95 8 ls (v :: st) h) := zq_gf (by decide +kernel : decode (zco 95) 5 = .ok (.getfield 19, 3)) (by decide +kernel)
theorem q95_8 {x : Nat} : zev xs L 95 8 [.ref x, v1, v2, v3, v4, v5] st h = zev xs L 95 9 [.ref x, v1, v2, v3, v4, v5] (.ref x :: st) h := zq_aln (by decide +kernel : decode (zco 95) 8 = .ok (.aload_n 0, 1)) rfl
theorem q95_9 {a : Nat} : zev xs L 95 9 ls (.ref a :: st) h = (zget h a 7 3).bind (fun v => zev xs L 95 12 ls (v :: st) h) := zq_gf (by decide +kernel : decode (zco 95) 9 = .ok (.getfield 29, 3)) (by decide +kernel)
theorem q95_12 {a : Nat} {x0 : Nat} {x1 : Nat} (ht : ztag h a = some 6) : zev xs L 95 12 ls [.ref x1, .ref x0, .ref a] h = (zev xs L 50 0 [.ref a, .ref x0, .ref x1, .null, .null] [] h).bind (fun q => zev xs L 95 15 ls (q.1.toList ++ []) q.2) := zq_call (av := [.ref a, .ref x0, .ref x1]) (rest := []) (n := 3) (k := 5) (J := []) (i := .invokevirtual 197) (by decide +kernel : decode (zco 95) 12 = .ok (.invokevirtual 197, 3)) rfl (by decide +kernel) (by decide +kernel) (Nat.le_of_ble_eq_true rfl) rfl rfl rfl rfl (Or.inr (Or.inr ⟨_, _, rfl, Or.inr (Or.inr ⟨rfl, ht⟩)⟩))
theorem q95_15 {x : Int32} : zev xs L 95 15 [v0, v1, v2, v3, v4, v5] (.int x :: st) h = zev xs L 95 16 [v0, .int x, v2, v3, v4, v5] st h := zq_isn (by decide +kernel : decode (zco 95) 15 = .ok (.istore_n 1, 1)) (by decide +kernel) rfl
theorem q95_16 : zev xs L 95 16 ls st h = zev xs L 95 18 ls (.int ((-4)) :: st) h := zq_bi (by decide +kernel : decode (zco 95) 16 = .ok (.bipush (-4), 2)) rfl
theorem q95_18 {x : Int32} : zev xs L 95 18 [v0, v1, v2, v3, v4, v5] (.int x :: st) h = zev xs L 95 19 [v0, v1, .int x, v3, v4, v5] st h := zq_isn (by decide +kernel : decode (zco 95) 18 = .ok (.istore_n 2, 1)) (by decide +kernel) rfl
theorem q95_19 {x : Nat} : zev xs L 95 19 [.ref x, v1, v2, v3, v4, v5] st h = zev xs L 95 20 [.ref x, v1, v2, v3, v4, v5] (.ref x :: st) h := zq_aln (by decide +kernel : decode (zco 95) 19 = .ok (.aload_n 0, 1)) rfl
theorem q95_20 {a : Nat} : zev xs L 95 20 ls (.ref a :: st) h = (zget h a 7 4).bind (fun v => zev xs L 95 23 ls (v :: st) h) := zq_gf (by decide +kernel : decode (zco 95) 20 = .ok (.getfield 33, 3)) (by decide +kernel)
theorem q95_23 {x : Nat} : zev xs L 95 23 [.ref x, v1, v2, v3, v4, v5] st h = zev xs L 95 24 [.ref x, v1, v2, v3, v4, v5] (.ref x :: st) h := zq_aln (by decide +kernel : decode (zco 95) 23 = .ok (.aload_n 0, 1)) rfl
theorem q95_24 {a : Nat} : zev xs L 95 24 ls (.ref a :: st) h = (zget h a 7 3).bind (fun v => zev xs L 95 27 ls (v :: st) h) := zq_gf (by decide +kernel : decode (zco 95) 24 = .ok (.getfield 29, 3)) (by decide +kernel)
theorem q95_27 {a : Nat} {x0 : Nat} (ht : ztag h a = some 1) : zev xs L 95 27 ls [.ref x0, .ref a] h = (zev xs L 15 0 [.ref a, .ref x0] [] h).bind (fun q => zev xs L 95 30 ls (q.1.toList ++ []) q.2) := zq_call (av := [.ref a, .ref x0]) (rest := []) (n := 2) (k := 2) (J := []) (i := .invokevirtual 260) (by decide +kernel : decode (zco 95) 27 = .ok (.invokevirtual 260, 3)) rfl (by decide +kernel) (by decide +kernel) (Nat.le_of_ble_eq_true rfl) rfl rfl rfl rfl (Or.inr (Or.inr ⟨_, _, rfl, Or.inr (Or.inr ⟨rfl, ht⟩)⟩))
theorem q95_30 : zev xs L 95 30 ls st h = zev xs L 95 31 ls (.int (nI 0) :: st) h := zq_ic (by decide +kernel : decode (zco 95) 30 = .ok (.iconst 0, 1)) rfl
theorem q95_31 {x : Int32} : zev xs L 95 31 [v0, v1, v2, v3, v4, v5] (.int x :: st) h = zev xs L 95 32 [v0, v1, v2, .int x, v4, v5] st h := zq_isn (by decide +kernel : decode (zco 95) 31 = .ok (.istore_n 3, 1)) (by decide +kernel) rfl
theorem q95_32 {x : Int32} : zev xs L 95 32 [v0, v1, v2, .int x, v4, v5] st h = zev xs L 95 33 [v0, v1, v2, .int x, v4, v5] (.int x :: st) h := zq_iln (by decide +kernel : decode (zco 95) 32 = .ok (.iload_n 3, 1)) rfl
theorem q95_33 {x : Nat} : zev xs L 95 33 [.ref x, v1, v2, v3, v4, v5] st h = zev xs L 95 34 [.ref x, v1, v2, v3, v4, v5] (.ref x :: st) h := zq_aln (by decide +kernel : decode (zco 95) 33 = .ok (.aload_n 0, 1)) rfl
theorem q95_34 {a : Nat} : zev xs L 95 34 ls (.ref a :: st) h = (zget h a 7 1).bind (fun v => zev xs L 95 37 ls (v :: st) h) := zq_gf (by decide +kernel : decode (zco 95) 34 = .ok (.getfield 19, 3)) (by decide +kernel)
theorem q95_37 {a : Nat} : zev xs L 95 37 ls (.ref a :: st) h = (zget h a 5 1).bind (fun v => zev xs L 95 40 ls (v :: st) h) := zq_gf (by decide +kernel : decode (zco 95) 37 = .ok (.getfield 106, 3)) (by decide +kernel)
theorem q95_40 {x y : Int32} : zev xs L 95 40 ls (.int y :: .int x :: st) h = if x < y then zev xs L 95 43 ls st h else zev xs L 95 143 ls st h := (zq_ic2 (by decide +kernel : decode (zco 95) 40 = .ok (.if_icmp .ge 103, 3)) (by decide +kernel)).trans (zdge)
theorem q95_43 {x : Int32} : zev xs L 95 43 [v0, .int x, v2, v3, v4, v5] st h = zev xs L 95 44 [v0, .int x, v2, v3, v4, v5] (.int x :: st) h := zq_iln (by decide +kernel : decode (zco 95) 43 = .ok (.iload_n 1, 1)) rfl
theorem q95_44 {x : Nat} : zev xs L 95 44 [.ref x, v1, v2, v3, v4, v5] st h = zev xs L 95 45 [.ref x, v1, v2, v3, v4, v5] (.ref x :: st) h := zq_aln (by decide +kernel : decode (zco 95) 44 = .ok (.aload_n 0, 1)) rfl
theorem q95_45 {a : Nat} : zev xs L 95 45 ls (.ref a :: st) h = (zget h a 7 8).bind (fun v => zev xs L 95 48 ls (v :: st) h) := zq_gf (by decide +kernel : decode (zco 95) 45 = .ok (.getfield 58, 3)) (by decide +kernel)
theorem q95_48 {a : Nat} : zev xs L 95 48 ls (.ref a :: st) h = (zget h a 6 4).bind (fun v => zev xs L 95 51 ls (v :: st) h) := zq_gf (by decide +kernel : decode (zco 95) 48 = .ok (.getfield 201, 3)) (by decide +kernel)
theorem q95_51 {x y : Int32} : zev xs L 95 51 ls (.int y :: .int x :: st) h = if x < y then zev xs L 95 54 ls st h else zev xs L 95 143 ls st h := (zq_ic2 (by decide +kernel : decode (zco 95) 51 = .ok (.if_icmp .ge 92, 3)) (by decide +kernel)).trans (zdge)
theorem q95_54 : zev xs L 95 54 ls st h = zev xs L 95 55 ls (.int (nI 0) :: st) h := zq_ic (by decide +kernel : decode (zco 95) 54 = .ok (.iconst 0, 1)) rfl
theorem q95_55 {x : Int32} : zev xs L 95 55 [v0, v1, v2, v3, v4, v5] (.int x :: st) h = zev xs L 95 57 [v0, v1, v2, v3, .int x, v5] st h := zq_is (by decide +kernel : decode (zco 95) 55 = .ok (.istore 4, 2)) (by decide +kernel) rfl
theorem q95_57 {x : Int32} : zev xs L 95 57 [v0, v1, v2, v3, .int x, v5] st h = zev xs L 95 59 [v0, v1, v2, v3, .int x, v5] (.int x :: st) h := zq_il (by decide +kernel : decode (zco 95) 57 = .ok (.iload 4, 2)) rfl
theorem q95_59 {x : Nat} : zev xs L 95 59 [.ref x, v1, v2, v3, v4, v5] st h = zev xs L 95 60 [.ref x, v1, v2, v3, v4, v5] (.ref x :: st) h := zq_aln (by decide +kernel : decode (zco 95) 59 = .ok (.aload_n 0, 1)) rfl
theorem q95_60 {a : Nat} : zev xs L 95 60 ls (.ref a :: st) h = (zget h a 7 1).bind (fun v => zev xs L 95 63 ls (v :: st) h) := zq_gf (by decide +kernel : decode (zco 95) 60 = .ok (.getfield 19, 3)) (by decide +kernel)
theorem q95_63 {a : Nat} : zev xs L 95 63 ls (.ref a :: st) h = (zget h a 5 0).bind (fun v => zev xs L 95 66 ls (v :: st) h) := zq_gf (by decide +kernel : decode (zco 95) 63 = .ok (.getfield 254, 3)) (by decide +kernel)
theorem q95_66 {x y : Int32} : zev xs L 95 66 ls (.int y :: .int x :: st) h = if x < y then zev xs L 95 69 ls st h else zev xs L 95 119 ls st h := (zq_ic2 (by decide +kernel : decode (zco 95) 66 = .ok (.if_icmp .ge 53, 3)) (by decide +kernel)).trans (zdge)
theorem q95_69 {x : Nat} : zev xs L 95 69 [.ref x, v1, v2, v3, v4, v5] st h = zev xs L 95 70 [.ref x, v1, v2, v3, v4, v5] (.ref x :: st) h := zq_aln (by decide +kernel : decode (zco 95) 69 = .ok (.aload_n 0, 1)) rfl
theorem q95_70 {a : Nat} : zev xs L 95 70 ls (.ref a :: st) h = (zget h a 7 4).bind (fun v => zev xs L 95 73 ls (v :: st) h) := zq_gf (by decide +kernel : decode (zco 95) 70 = .ok (.getfield 33, 3)) (by decide +kernel)
theorem q95_73 {a : Nat} : zev xs L 95 73 ls (.ref a :: st) h = (zget h a 1 3).bind (fun v => zev xs L 95 76 ls (v :: st) h) := zq_gf (by decide +kernel : decode (zco 95) 73 = .ok (.getfield 146, 3)) (by decide +kernel)
theorem q95_76 {x : Int32} : zev xs L 95 76 [v0, v1, v2, .int x, v4, v5] st h = zev xs L 95 77 [v0, v1, v2, .int x, v4, v5] (.int x :: st) h := zq_iln (by decide +kernel : decode (zco 95) 76 = .ok (.iload_n 3, 1)) rfl
theorem q95_77 {x : Int32} : zev xs L 95 77 [v0, v1, v2, v3, .int x, v5] st h = zev xs L 95 79 [v0, v1, v2, v3, .int x, v5] (.int x :: st) h := zq_il (by decide +kernel : decode (zco 95) 77 = .ok (.iload 4, 2)) rfl
theorem q95_79 {x y : Int32} {a : Nat} : zev xs L 95 79 ls (.int y :: .int x :: .ref a :: st) h = (zast h 20 a x (.int y)).bind (fun h => zev xs L 95 80 ls st h) := zq_ias (by decide +kernel : decode (zco 95) 79 = .ok (.iastore, 1))
theorem q95_80 {x : Nat} : zev xs L 95 80 [.ref x, v1, v2, v3, v4, v5] st h = zev xs L 95 81 [.ref x, v1, v2, v3, v4, v5] (.ref x :: st) h := zq_aln (by decide +kernel : decode (zco 95) 80 = .ok (.aload_n 0, 1)) rfl
theorem q95_81 {a : Nat} : zev xs L 95 81 ls (.ref a :: st) h = (zget h a 7 8).bind (fun v => zev xs L 95 84 ls (v :: st) h) := zq_gf (by decide +kernel : decode (zco 95) 81 = .ok (.getfield 58, 3)) (by decide +kernel)
theorem q95_84 {x : Nat} : zev xs L 95 84 [.ref x, v1, v2, v3, v4, v5] st h = zev xs L 95 85 [.ref x, v1, v2, v3, v4, v5] (.ref x :: st) h := zq_aln (by decide +kernel : decode (zco 95) 84 = .ok (.aload_n 0, 1)) rfl
theorem q95_85 {a : Nat} : zev xs L 95 85 ls (.ref a :: st) h = (zget h a 7 1).bind (fun v => zev xs L 95 88 ls (v :: st) h) := zq_gf (by decide +kernel : decode (zco 95) 85 = .ok (.getfield 19, 3)) (by decide +kernel)
theorem q95_88 {x : Nat} : zev xs L 95 88 [.ref x, v1, v2, v3, v4, v5] st h = zev xs L 95 89 [.ref x, v1, v2, v3, v4, v5] (.ref x :: st) h := zq_aln (by decide +kernel : decode (zco 95) 88 = .ok (.aload_n 0, 1)) rfl
theorem q95_89 {a : Nat} : zev xs L 95 89 ls (.ref a :: st) h = (zget h a 7 4).bind (fun v => zev xs L 95 92 ls (v :: st) h) := zq_gf (by decide +kernel : decode (zco 95) 89 = .ok (.getfield 33, 3)) (by decide +kernel)
theorem q95_92 {a : Nat} {x0 : Nat} {x1 : Nat} (ht : ztag h a = some 6) : zev xs L 95 92 ls [.ref x1, .ref x0, .ref a] h = (zev xs L 50 0 [.ref a, .ref x0, .ref x1, .null, .null] [] h).bind (fun q => zev xs L 95 95 ls (q.1.toList ++ []) q.2) := zq_call (av := [.ref a, .ref x0, .ref x1]) (rest := []) (n := 3) (k := 5) (J := []) (i := .invokevirtual 197) (by decide +kernel : decode (zco 95) 92 = .ok (.invokevirtual 197, 3)) rfl (by decide +kernel) (by decide +kernel) (Nat.le_of_ble_eq_true rfl) rfl rfl rfl rfl (Or.inr (Or.inr ⟨_, _, rfl, Or.inr (Or.inr ⟨rfl, ht⟩)⟩))
theorem q95_95 {x : Int32} : zev xs L 95 95 [v0, v1, v2, v3, v4, v5] (.int x :: st) h = zev xs L 95 97 [v0, v1, v2, v3, v4, .int x] st h := zq_is (by decide +kernel : decode (zco 95) 95 = .ok (.istore 5, 2)) (by decide +kernel) rfl
theorem q95_97 {x : Int32} : zev xs L 95 97 [v0, v1, v2, v3, v4, .int x] st h = zev xs L 95 99 [v0, v1, v2, v3, v4, .int x] (.int x :: st) h := zq_il (by decide +kernel : decode (zco 95) 97 = .ok (.iload 5, 2)) rfl
theorem q95_99 {x : Int32} : zev xs L 95 99 [v0, .int x, v2, v3, v4, v5] st h = zev xs L 95 100 [v0, .int x, v2, v3, v4, v5] (.int x :: st) h := zq_iln (by decide +kernel : decode (zco 95) 99 = .ok (.iload_n 1, 1)) rfl
theorem q95_100 {x y : Int32} : zev xs L 95 100 ls (.int y :: .int x :: st) h = if y < x then zev xs L 95 103 ls st h else zev xs L 95 113 ls st h := (zq_ic2 (by decide +kernel : decode (zco 95) 100 = .ok (.if_icmp .le 13, 3)) (by decide +kernel)).trans (zdge)
theorem q95_103 {x : Int32} : zev xs L 95 103 [v0, v1, v2, v3, v4, .int x] st h = zev xs L 95 105 [v0, v1, v2, v3, v4, .int x] (.int x :: st) h := zq_il (by decide +kernel : decode (zco 95) 103 = .ok (.iload 5, 2)) rfl
theorem q95_105 {x : Int32} : zev xs L 95 105 [v0, v1, v2, v3, v4, v5] (.int x :: st) h = zev xs L 95 106 [v0, .int x, v2, v3, v4, v5] st h := zq_isn (by decide +kernel : decode (zco 95) 105 = .ok (.istore_n 1, 1)) (by decide +kernel) rfl
theorem q95_106 {x : Int32} : zev xs L 95 106 [v0, v1, v2, .int x, v4, v5] st h = zev xs L 95 107 [v0, v1, v2, .int x, v4, v5] (.int x :: st) h := zq_iln (by decide +kernel : decode (zco 95) 106 = .ok (.iload_n 3, 1)) rfl
theorem q95_107 : zev xs L 95 107 ls st h = zev xs L 95 108 ls (.int (nI 5) :: st) h := zq_ic (by decide +kernel : decode (zco 95) 107 = .ok (.iconst 5, 1)) rfl
theorem q95_108 {x y : Int32} : zev xs L 95 108 ls (.int y :: .int x :: st) h = zev xs L 95 109 ls (.int (x * y) :: st) h := zq_imul (by decide +kernel : decode (zco 95) 108 = .ok (.imul, 1))
theorem q95_109 {x : Int32} : zev xs L 95 109 [v0, v1, v2, v3, .int x, v5] st h = zev xs L 95 111 [v0, v1, v2, v3, .int x, v5] (.int x :: st) h := zq_il (by decide +kernel : decode (zco 95) 109 = .ok (.iload 4, 2)) rfl
theorem q95_111 {x y : Int32} : zev xs L 95 111 ls (.int y :: .int x :: st) h = zev xs L 95 112 ls (.int (x + y) :: st) h := zq_iadd (by decide +kernel : decode (zco 95) 111 = .ok (.iadd, 1))
theorem q95_112 {x : Int32} : zev xs L 95 112 [v0, v1, v2, v3, v4, v5] (.int x :: st) h = zev xs L 95 113 [v0, v1, .int x, v3, v4, v5] st h := zq_isn (by decide +kernel : decode (zco 95) 112 = .ok (.istore_n 2, 1)) (by decide +kernel) rfl
theorem q95_113 {x : Int32} : zev xs L 95 113 [v0, v1, v2, v3, .int x, v5] st h = zev xs L 95 116 [v0, v1, v2, v3, .int (x + nI 1), v5] st h := zq_inc (by decide +kernel : decode (zco 95) 113 = .ok (.iinc 4 1, 3)) rfl (by decide +kernel) (zn_1 x) rfl
theorem q95_116 : zev xs L 95 116 ls st h = zev xs L 95 57 ls st h := zq_go (by decide +kernel : decode (zco 95) 116 = .ok (.goto (-59), 3)) (by decide +kernel)
theorem q95_119 {x : Nat} : zev xs L 95 119 [.ref x, v1, v2, v3, v4, v5] st h = zev xs L 95 120 [.ref x, v1, v2, v3, v4, v5] (.ref x :: st) h := zq_aln (by decide +kernel : decode (zco 95) 119 = .ok (.aload_n 0, 1)) rfl
theorem q95_120 {a : Nat} : zev xs L 95 120 ls (.ref a :: st) h = (zget h a 7 4).bind (fun v => zev xs L 95 123 ls (v :: st) h) := zq_gf (by decide +kernel : decode (zco 95) 120 = .ok (.getfield 33, 3)) (by decide +kernel)
theorem q95_123 {a : Nat} : zev xs L 95 123 ls (.ref a :: st) h = (zget h a 1 3).bind (fun v => zev xs L 95 126 ls (v :: st) h) := zq_gf (by decide +kernel : decode (zco 95) 123 = .ok (.getfield 146, 3)) (by decide +kernel)
theorem q95_126 {x : Int32} : zev xs L 95 126 [v0, v1, v2, .int x, v4, v5] st h = zev xs L 95 127 [v0, v1, v2, .int x, v4, v5] (.int x :: st) h := zq_iln (by decide +kernel : decode (zco 95) 126 = .ok (.iload_n 3, 1)) rfl
theorem q95_127 {x : Nat} : zev xs L 95 127 [.ref x, v1, v2, v3, v4, v5] st h = zev xs L 95 128 [.ref x, v1, v2, v3, v4, v5] (.ref x :: st) h := zq_aln (by decide +kernel : decode (zco 95) 127 = .ok (.aload_n 0, 1)) rfl
theorem q95_128 {a : Nat} : zev xs L 95 128 ls (.ref a :: st) h = (zget h a 7 3).bind (fun v => zev xs L 95 131 ls (v :: st) h) := zq_gf (by decide +kernel : decode (zco 95) 128 = .ok (.getfield 29, 3)) (by decide +kernel)
theorem q95_131 {a : Nat} : zev xs L 95 131 ls (.ref a :: st) h = (zget h a 1 3).bind (fun v => zev xs L 95 134 ls (v :: st) h) := zq_gf (by decide +kernel : decode (zco 95) 131 = .ok (.getfield 146, 3)) (by decide +kernel)
theorem q95_134 {x : Int32} : zev xs L 95 134 [v0, v1, v2, .int x, v4, v5] st h = zev xs L 95 135 [v0, v1, v2, .int x, v4, v5] (.int x :: st) h := zq_iln (by decide +kernel : decode (zco 95) 134 = .ok (.iload_n 3, 1)) rfl
theorem q95_135 {x : Int32} {a : Nat} : zev xs L 95 135 ls (.int x :: .ref a :: st) h = (zaldI h 20 a x).bind (fun x => zev xs L 95 136 ls (.int x :: st) h) := zq_ia (by decide +kernel : decode (zco 95) 135 = .ok (.iaload, 1))
theorem q95_136 {x y : Int32} {a : Nat} : zev xs L 95 136 ls (.int y :: .int x :: .ref a :: st) h = (zast h 20 a x (.int y)).bind (fun h => zev xs L 95 137 ls st h) := zq_ias (by decide +kernel : decode (zco 95) 136 = .ok (.iastore, 1))
theorem q95_137 {x : Int32} : zev xs L 95 137 [v0, v1, v2, .int x, v4, v5] st h = zev xs L 95 140 [v0, v1, v2, .int (x + nI 1), v4, v5] st h := zq_inc (by decide +kernel : decode (zco 95) 137 = .ok (.iinc 3 1, 3)) rfl (by decide +kernel) (zn_1 x) rfl
theorem q95_140 : zev xs L 95 140 ls st h = zev xs L 95 32 ls st h := zq_go (by decide +kernel : decode (zco 95) 140 = .ok (.goto (-108), 3)) (by decide +kernel)
theorem q95_143 {x : Int32} : zev xs L 95 143 [v0, v1, .int x, v3, v4, v5] st h = zev xs L 95 144 [v0, v1, .int x, v3, v4, v5] (.int x :: st) h := zq_iln (by decide +kernel : decode (zco 95) 143 = .ok (.iload_n 2, 1)) rfl
theorem q95_144 {x : Int32} : zev xs L 95 144 ls [.int x] h = some (some (.int x), h) := zq_ri (by decide +kernel : decode (zco 95) 144 = .ok (.ireturn, 1)) (by decide +kernel)
end
/- X7_isWithin -/
section
variable {xs : Nat → Int32} {L : Nat} {ls st : List Value} {h : ZH} {v0 v1 v2 : Value} 
theorem q96_0 {x : Int32} : zev xs L 96 0 [.int x, v1, v2] st h = zev xs L 96 1 [.int x, v1, v2] (.int x :: st) h := zq_iln (by decide +kernel : decode (zco 96) 0 = .ok (.iload_n 0, 1)) rfl
theorem q96_1 {x : Int32} : zev xs L 96 1 [v0, .int x, v2] st h = zev xs L 96 2 [v0, .int x, v2] (.int x :: st) h := zq_iln (by decide +kernel : decode (zco 96) 1 = .ok (.iload_n 1, 1)) rfl
theorem q96_2 {x y : Int32} : zev xs L 96 2 ls (.int y :: .int x :: st) h = if x < y then zev xs L 96 14 ls st h else zev xs L 96 5 ls st h := (zq_ic2 (by decide +kernel : decode (zco 96) 2 = .ok (.if_icmp .lt 12, 3)) (by decide +kernel)).trans (zdec rfl)
theorem q96_5 {x : Int32} : zev xs L 96 5 [.int x, v1, v2] st h = zev xs L 96 6 [.int x, v1, v2] (.int x :: st) h := zq_iln (by decide +kernel : decode (zco 96) 5 = .ok (.iload_n 0, 1)) rfl
theorem q96_6 {x : Int32} : zev xs L 96 6 [v0, v1, .int x] st h = zev xs L 96 7 [v0, v1, .int x] (.int x :: st) h := zq_iln (by decide +kernel : decode (zco 96) 6 = .ok (.iload_n 2, 1)) rfl
theorem q96_7 {x y : Int32} : zev xs L 96 7 ls (.int y :: .int x :: st) h = if y < x then zev xs L 96 14 ls st h else zev xs L 96 10 ls st h := (zq_ic2 (by decide +kernel : decode (zco 96) 7 = .ok (.if_icmp .gt 7, 3)) (by decide +kernel)).trans (zdec rfl)
theorem q96_10 : zev xs L 96 10 ls st h = zev xs L 96 11 ls (.int (nI 1) :: st) h := zq_ic (by decide +kernel : decode (zco 96) 10 = .ok (.iconst 1, 1)) rfl
theorem q96_11 : zev xs L 96 11 ls st h = zev xs L 96 15 ls st h := zq_go (by decide +kernel : decode (zco 96) 11 = .ok (.goto 4, 3)) (by decide +kernel)
theorem q96_14 : zev xs L 96 14 ls st h = zev xs L 96 15 ls (.int (nI 0) :: st) h := zq_ic (by decide +kernel : decode (zco 96) 14 = .ok (.iconst 0, 1)) rfl
theorem q96_15 {x : Int32} : zev xs L 96 15 ls [.int x] h = if zbk x = true then some (some (.int x), h) else none := zq_rzi (by decide +kernel : decode (zco 96) 15 = .ok (.ireturn, 1)) (by decide +kernel)
end
/- X7_has -/
section
variable {xs : Nat → Int32} {L : Nat} {ls st : List Value} {h : ZH} {v0 v1 : Value} 
theorem q97_0 {x : Int32} : zev xs L 97 0 [.int x, v1] st h = zev xs L 97 1 [.int x, v1] (.int x :: st) h := zq_iln (by decide +kernel : decode (zco 97) 0 = .ok (.iload_n 0, 1)) rfl
theorem q97_1 {x : Int32} : zev xs L 97 1 [v0, .int x] st h = zev xs L 97 2 [v0, .int x] (.int x :: st) h := zq_iln (by decide +kernel : decode (zco 97) 1 = .ok (.iload_n 1, 1)) rfl
theorem q97_2 {x y : Int32} : zev xs L 97 2 ls (.int y :: .int x :: st) h = zev xs L 97 3 ls (.int (x >>> (y &&& 31)) :: st) h := zq_ishr (by decide +kernel : decode (zco 97) 2 = .ok (.ishr, 1))
theorem q97_3 : zev xs L 97 3 ls st h = zev xs L 97 4 ls (.int (nI 1) :: st) h := zq_ic (by decide +kernel : decode (zco 97) 3 = .ok (.iconst 1, 1)) rfl
theorem q97_4 {x y : Int32} : zev xs L 97 4 ls (.int y :: .int x :: st) h = zev xs L 97 5 ls (.int (x &&& y) :: st) h := zq_iand (by decide +kernel : decode (zco 97) 4 = .ok (.iand, 1))
theorem q97_5 : zev xs L 97 5 ls st h = zev xs L 97 6 ls (.int (nI 1) :: st) h := zq_ic (by decide +kernel : decode (zco 97) 5 = .ok (.iconst 1, 1)) rfl
theorem q97_6 {x y : Int32} : zev xs L 97 6 ls (.int y :: .int x :: st) h = if x = y then zev xs L 97 9 ls st h else zev xs L 97 13 ls st h := (zq_ic2 (by decide +kernel : decode (zco 97) 6 = .ok (.if_icmp .ne 7, 3)) (by decide +kernel)).trans (zdecn rfl)
theorem q97_9 : zev xs L 97 9 ls st h = zev xs L 97 10 ls (.int (nI 1) :: st) h := zq_ic (by decide +kernel : decode (zco 97) 9 = .ok (.iconst 1, 1)) rfl
theorem q97_10 : zev xs L 97 10 ls st h = zev xs L 97 14 ls st h := zq_go (by decide +kernel : decode (zco 97) 10 = .ok (.goto 4, 3)) (by decide +kernel)
theorem q97_13 : zev xs L 97 13 ls st h = zev xs L 97 14 ls (.int (nI 0) :: st) h := zq_ic (by decide +kernel : decode (zco 97) 13 = .ok (.iconst 0, 1)) rfl
theorem q97_14 {x : Int32} : zev xs L 97 14 ls [.int x] h = if zbk x = true then some (some (.int x), h) else none := zq_rzi (by decide +kernel : decode (zco 97) 14 = .ok (.ireturn, 1)) (by decide +kernel)
end
/- X7_at -/
section
variable {xs : Nat → Int32} {L : Nat} {ls st : List Value} {h : ZH} {v0 v1 : Value} 
theorem q98_0 {x : Int32} : zev xs L 98 0 [v0, .int x] st h = zev xs L 98 1 [v0, .int x] (.int x :: st) h := zq_iln (by decide +kernel : decode (zco 98) 0 = .ok (.iload_n 1, 1)) rfl
theorem q98_1 {x : Int32} : zev xs L 98 1 ls (.int x :: st) h = if x < 0 then zev xs L 98 16 ls st h else zev xs L 98 4 ls st h := (zq_if (by decide +kernel : decode (zco 98) 1 = .ok (.ifCond .lt 15, 3)) (by decide +kernel)).trans (zdec rfl)
theorem q98_4 {x : Int32} : zev xs L 98 4 [v0, .int x] st h = zev xs L 98 5 [v0, .int x] (.int x :: st) h := zq_iln (by decide +kernel : decode (zco 98) 4 = .ok (.iload_n 1, 1)) rfl
theorem q98_5 {x : Nat} : zev xs L 98 5 [.ref x, v1] st h = zev xs L 98 6 [.ref x, v1] (.ref x :: st) h := zq_aln (by decide +kernel : decode (zco 98) 5 = .ok (.aload_n 0, 1)) rfl
theorem q98_6 {a : Nat} : zev xs L 98 6 ls (.ref a :: st) h = (zaln h a).bind (fun n => zev xs L 98 7 ls (.int (nI n) :: st) h) := zq_len (by decide +kernel : decode (zco 98) 6 = .ok (.arraylength, 1))
theorem q98_7 {x y : Int32} : zev xs L 98 7 ls (.int y :: .int x :: st) h = if x < y then zev xs L 98 10 ls st h else zev xs L 98 16 ls st h := (zq_ic2 (by decide +kernel : decode (zco 98) 7 = .ok (.if_icmp .ge 9, 3)) (by decide +kernel)).trans (zdge)
theorem q98_10 {x : Nat} : zev xs L 98 10 [.ref x, v1] st h = zev xs L 98 11 [.ref x, v1] (.ref x :: st) h := zq_aln (by decide +kernel : decode (zco 98) 10 = .ok (.aload_n 0, 1)) rfl
theorem q98_11 {x : Int32} : zev xs L 98 11 [v0, .int x] st h = zev xs L 98 12 [v0, .int x] (.int x :: st) h := zq_iln (by decide +kernel : decode (zco 98) 11 = .ok (.iload_n 1, 1)) rfl
theorem q98_12 {x : Int32} {a : Nat} : zev xs L 98 12 ls (.int x :: .ref a :: st) h = (zaldI h 20 a x).bind (fun x => zev xs L 98 13 ls (.int x :: st) h) := zq_ia (by decide +kernel : decode (zco 98) 12 = .ok (.iaload, 1))
theorem q98_13 : zev xs L 98 13 ls st h = zev xs L 98 17 ls st h := zq_go (by decide +kernel : decode (zco 98) 13 = .ok (.goto 4, 3)) (by decide +kernel)
theorem q98_16 : zev xs L 98 16 ls st h = zev xs L 98 17 ls (.int (nI 0) :: st) h := zq_ic (by decide +kernel : decode (zco 98) 16 = .ok (.iconst 0, 1)) rfl
theorem q98_17 {x : Int32} : zev xs L 98 17 ls [.int x] h = some (some (.int x), h) := zq_ri (by decide +kernel : decode (zco 98) 17 = .ok (.ireturn, 1)) (by decide +kernel)
end
/- X7_swap -/
section
variable {xs : Nat → Int32} {L : Nat} {ls st : List Value} {h : ZH} {v0 v1 v2 v3 : Value} 
theorem q99_0 {x : Int32} : zev xs L 99 0 [v0, .int x, v2, v3] st h = zev xs L 99 1 [v0, .int x, v2, v3] (.int x :: st) h := zq_iln (by decide +kernel : decode (zco 99) 0 = .ok (.iload_n 1, 1)) rfl
theorem q99_1 : zev xs L 99 1 ls st h = zev xs L 99 2 ls (.int (nI 0) :: st) h := zq_ic (by decide +kernel : decode (zco 99) 1 = .ok (.iconst 0, 1)) rfl
theorem q99_2 {x : Nat} : zev xs L 99 2 [.ref x, v1, v2, v3] st h = zev xs L 99 3 [.ref x, v1, v2, v3] (.ref x :: st) h := zq_aln (by decide +kernel : decode (zco 99) 2 = .ok (.aload_n 0, 1)) rfl
theorem q99_3 {a : Nat} : zev xs L 99 3 ls (.ref a :: st) h = (zaln h a).bind (fun n => zev xs L 99 4 ls (.int (nI n) :: st) h) := zq_len (by decide +kernel : decode (zco 99) 3 = .ok (.arraylength, 1))
theorem q99_4 : zev xs L 99 4 ls st h = zev xs L 99 5 ls (.int (nI 1) :: st) h := zq_ic (by decide +kernel : decode (zco 99) 4 = .ok (.iconst 1, 1)) rfl
theorem q99_5 {x y : Int32} : zev xs L 99 5 ls (.int y :: .int x :: st) h = zev xs L 99 6 ls (.int (x - y) :: st) h := zq_isub (by decide +kernel : decode (zco 99) 5 = .ok (.isub, 1))
theorem q99_6 {x0 : Int32} {x1 : Int32} {x2 : Int32} : zev xs L 99 6 ls [.int x2, .int x1, .int x0] h = (zev xs L 96 0 [.int x0, .int x1, .int x2] [] h).bind (fun q => zev xs L 99 9 ls (q.1.toList ++ []) q.2) := zq_call (av := [.int x0, .int x1, .int x2]) (rest := []) (n := 3) (k := 3) (J := []) (i := .invokestatic 81) (by decide +kernel : decode (zco 99) 6 = .ok (.invokestatic 81, 3)) rfl (by decide +kernel) (by decide +kernel) (Nat.le_of_ble_eq_true rfl) rfl rfl rfl rfl (Or.inl rfl)
theorem q99_9 {x : Int32} : zev xs L 99 9 ls (.int x :: st) h = if x = 0 then zev xs L 99 38 ls st h else zev xs L 99 12 ls st h := (zq_if (by decide +kernel : decode (zco 99) 9 = .ok (.ifCond .eq 29, 3)) (by decide +kernel)).trans (zdec rfl)
theorem q99_12 {x : Int32} : zev xs L 99 12 [v0, v1, .int x, v3] st h = zev xs L 99 13 [v0, v1, .int x, v3] (.int x :: st) h := zq_iln (by decide +kernel : decode (zco 99) 12 = .ok (.iload_n 2, 1)) rfl
theorem q99_13 : zev xs L 99 13 ls st h = zev xs L 99 14 ls (.int (nI 0) :: st) h := zq_ic (by decide +kernel : decode (zco 99) 13 = .ok (.iconst 0, 1)) rfl
theorem q99_14 {x : Nat} : zev xs L 99 14 [.ref x, v1, v2, v3] st h = zev xs L 99 15 [.ref x, v1, v2, v3] (.ref x :: st) h := zq_aln (by decide +kernel : decode (zco 99) 14 = .ok (.aload_n 0, 1)) rfl
theorem q99_15 {a : Nat} : zev xs L 99 15 ls (.ref a :: st) h = (zaln h a).bind (fun n => zev xs L 99 16 ls (.int (nI n) :: st) h) := zq_len (by decide +kernel : decode (zco 99) 15 = .ok (.arraylength, 1))
theorem q99_16 : zev xs L 99 16 ls st h = zev xs L 99 17 ls (.int (nI 1) :: st) h := zq_ic (by decide +kernel : decode (zco 99) 16 = .ok (.iconst 1, 1)) rfl
theorem q99_17 {x y : Int32} : zev xs L 99 17 ls (.int y :: .int x :: st) h = zev xs L 99 18 ls (.int (x - y) :: st) h := zq_isub (by decide +kernel : decode (zco 99) 17 = .ok (.isub, 1))
theorem q99_18 {x0 : Int32} {x1 : Int32} {x2 : Int32} : zev xs L 99 18 ls [.int x2, .int x1, .int x0] h = (zev xs L 96 0 [.int x0, .int x1, .int x2] [] h).bind (fun q => zev xs L 99 21 ls (q.1.toList ++ []) q.2) := zq_call (av := [.int x0, .int x1, .int x2]) (rest := []) (n := 3) (k := 3) (J := []) (i := .invokestatic 81) (by decide +kernel : decode (zco 99) 18 = .ok (.invokestatic 81, 3)) rfl (by decide +kernel) (by decide +kernel) (Nat.le_of_ble_eq_true rfl) rfl rfl rfl rfl (Or.inl rfl)
theorem q99_21 {x : Int32} : zev xs L 99 21 ls (.int x :: st) h = if x = 0 then zev xs L 99 38 ls st h else zev xs L 99 24 ls st h := (zq_if (by decide +kernel : decode (zco 99) 21 = .ok (.ifCond .eq 17, 3)) (by decide +kernel)).trans (zdec rfl)
theorem q99_24 {x : Nat} : zev xs L 99 24 [.ref x, v1, v2, v3] st h = zev xs L 99 25 [.ref x, v1, v2, v3] (.ref x :: st) h := zq_aln (by decide +kernel : decode (zco 99) 24 = .ok (.aload_n 0, 1)) rfl
theorem q99_25 {x : Int32} : zev xs L 99 25 [v0, .int x, v2, v3] st h = zev xs L 99 26 [v0, .int x, v2, v3] (.int x :: st) h := zq_iln (by decide +kernel : decode (zco 99) 25 = .ok (.iload_n 1, 1)) rfl
theorem q99_26 {x : Int32} {a : Nat} : zev xs L 99 26 ls (.int x :: .ref a :: st) h = (zaldI h 20 a x).bind (fun x => zev xs L 99 27 ls (.int x :: st) h) := zq_ia (by decide +kernel : decode (zco 99) 26 = .ok (.iaload, 1))
theorem q99_27 {x : Int32} : zev xs L 99 27 [v0, v1, v2, v3] (.int x :: st) h = zev xs L 99 28 [v0, v1, v2, .int x] st h := zq_isn (by decide +kernel : decode (zco 99) 27 = .ok (.istore_n 3, 1)) (by decide +kernel) rfl
theorem q99_28 {x : Nat} : zev xs L 99 28 [.ref x, v1, v2, v3] st h = zev xs L 99 29 [.ref x, v1, v2, v3] (.ref x :: st) h := zq_aln (by decide +kernel : decode (zco 99) 28 = .ok (.aload_n 0, 1)) rfl
theorem q99_29 {x : Int32} : zev xs L 99 29 [v0, .int x, v2, v3] st h = zev xs L 99 30 [v0, .int x, v2, v3] (.int x :: st) h := zq_iln (by decide +kernel : decode (zco 99) 29 = .ok (.iload_n 1, 1)) rfl
theorem q99_30 {x : Nat} : zev xs L 99 30 [.ref x, v1, v2, v3] st h = zev xs L 99 31 [.ref x, v1, v2, v3] (.ref x :: st) h := zq_aln (by decide +kernel : decode (zco 99) 30 = .ok (.aload_n 0, 1)) rfl
theorem q99_31 {x : Int32} : zev xs L 99 31 [v0, v1, .int x, v3] st h = zev xs L 99 32 [v0, v1, .int x, v3] (.int x :: st) h := zq_iln (by decide +kernel : decode (zco 99) 31 = .ok (.iload_n 2, 1)) rfl
theorem q99_32 {x : Int32} {a : Nat} : zev xs L 99 32 ls (.int x :: .ref a :: st) h = (zaldI h 20 a x).bind (fun x => zev xs L 99 33 ls (.int x :: st) h) := zq_ia (by decide +kernel : decode (zco 99) 32 = .ok (.iaload, 1))
theorem q99_33 {x y : Int32} {a : Nat} : zev xs L 99 33 ls (.int y :: .int x :: .ref a :: st) h = (zast h 20 a x (.int y)).bind (fun h => zev xs L 99 34 ls st h) := zq_ias (by decide +kernel : decode (zco 99) 33 = .ok (.iastore, 1))
theorem q99_34 {x : Nat} : zev xs L 99 34 [.ref x, v1, v2, v3] st h = zev xs L 99 35 [.ref x, v1, v2, v3] (.ref x :: st) h := zq_aln (by decide +kernel : decode (zco 99) 34 = .ok (.aload_n 0, 1)) rfl
theorem q99_35 {x : Int32} : zev xs L 99 35 [v0, v1, .int x, v3] st h = zev xs L 99 36 [v0, v1, .int x, v3] (.int x :: st) h := zq_iln (by decide +kernel : decode (zco 99) 35 = .ok (.iload_n 2, 1)) rfl
theorem q99_36 {x : Int32} : zev xs L 99 36 [v0, v1, v2, .int x] st h = zev xs L 99 37 [v0, v1, v2, .int x] (.int x :: st) h := zq_iln (by decide +kernel : decode (zco 99) 36 = .ok (.iload_n 3, 1)) rfl
theorem q99_37 {x y : Int32} {a : Nat} : zev xs L 99 37 ls (.int y :: .int x :: .ref a :: st) h = (zast h 20 a x (.int y)).bind (fun h => zev xs L 99 38 ls st h) := zq_ias (by decide +kernel : decode (zco 99) 37 = .ok (.iastore, 1))
theorem q99_38 : zev xs L 99 38 ls [] h = some (none, h) := zq_rv (by decide +kernel : decode (zco 99) 38 = .ok (.return_, 1)) (by decide +kernel)
end
/- X7_commonDivisor -/
section
variable {xs : Nat → Int32} {L : Nat} {ls st : List Value} {h : ZH} {v0 v1 v2 v3 : Value} 
theorem q100_0 : zev xs L 100 0 ls st h = zev xs L 100 1 ls (.int (nI 0) :: st) h := zq_ic (by decide +kernel : decode (zco 100) 0 = .ok (.iconst 0, 1)) rfl
theorem q100_1 {x : Int32} : zev xs L 100 1 [v0, v1, v2, v3] (.int x :: st) h = zev xs L 100 2 [v0, v1, .int x, v3] st h := zq_isn (by decide +kernel : decode (zco 100) 1 = .ok (.istore_n 2, 1)) (by decide +kernel) rfl
theorem q100_2 {x : Int32} : zev xs L 100 2 [v0, v1, .int x, v3] st h = zev xs L 100 3 [v0, v1, .int x, v3] (.int x :: st) h := zq_iln (by decide +kernel : decode (zco 100) 2 = .ok (.iload_n 2, 1)) rfl
theorem q100_3 : zev xs L 100 3 ls st h = zev xs L 100 5 ls (.int (nI 64) :: st) h := zq_bi (by decide +kernel : decode (zco 100) 3 = .ok (.bipush 64, 2)) rfl
theorem q100_5 {x y : Int32} : zev xs L 100 5 ls (.int y :: .int x :: st) h = if x < y then zev xs L 100 8 ls st h else zev xs L 100 26 ls st h := (zq_ic2 (by decide +kernel : decode (zco 100) 5 = .ok (.if_icmp .ge 21, 3)) (by decide +kernel)).trans (zdge)
theorem q100_8 {x : Int32} : zev xs L 100 8 [v0, .int x, v2, v3] st h = zev xs L 100 9 [v0, .int x, v2, v3] (.int x :: st) h := zq_iln (by decide +kernel : decode (zco 100) 8 = .ok (.iload_n 1, 1)) rfl
theorem q100_9 {x : Int32} : zev xs L 100 9 ls (.int x :: st) h = if x = 0 then zev xs L 100 26 ls st h else zev xs L 100 12 ls st h := (zq_if (by decide +kernel : decode (zco 100) 9 = .ok (.ifCond .eq 17, 3)) (by decide +kernel)).trans (zdec rfl)
theorem q100_12 {x : Int32} : zev xs L 100 12 [.int x, v1, v2, v3] st h = zev xs L 100 13 [.int x, v1, v2, v3] (.int x :: st) h := zq_iln (by decide +kernel : decode (zco 100) 12 = .ok (.iload_n 0, 1)) rfl
theorem q100_13 {x : Int32} : zev xs L 100 13 [v0, .int x, v2, v3] st h = zev xs L 100 14 [v0, .int x, v2, v3] (.int x :: st) h := zq_iln (by decide +kernel : decode (zco 100) 13 = .ok (.iload_n 1, 1)) rfl
theorem q100_14 {x y : Int32} : zev xs L 100 14 ls (.int y :: .int x :: st) h = if y = 0 then none else zev xs L 100 15 ls (.int (x - x / y * y) :: st) h := zq_irm (by decide +kernel : decode (zco 100) 14 = .ok (.irem, 1))
theorem q100_15 {x : Int32} : zev xs L 100 15 [v0, v1, v2, v3] (.int x :: st) h = zev xs L 100 16 [v0, v1, v2, .int x] st h := zq_isn (by decide +kernel : decode (zco 100) 15 = .ok (.istore_n 3, 1)) (by decide +kernel) rfl
theorem q100_16 {x : Int32} : zev xs L 100 16 [v0, .int x, v2, v3] st h = zev xs L 100 17 [v0, .int x, v2, v3] (.int x :: st) h := zq_iln (by decide +kernel : decode (zco 100) 16 = .ok (.iload_n 1, 1)) rfl
theorem q100_17 {x : Int32} : zev xs L 100 17 [v0, v1, v2, v3] (.int x :: st) h = zev xs L 100 18 [.int x, v1, v2, v3] st h := zq_isn (by decide +kernel : decode (zco 100) 17 = .ok (.istore_n 0, 1)) (by decide +kernel) rfl
theorem q100_18 {x : Int32} : zev xs L 100 18 [v0, v1, v2, .int x] st h = zev xs L 100 19 [v0, v1, v2, .int x] (.int x :: st) h := zq_iln (by decide +kernel : decode (zco 100) 18 = .ok (.iload_n 3, 1)) rfl
theorem q100_19 {x : Int32} : zev xs L 100 19 [v0, v1, v2, v3] (.int x :: st) h = zev xs L 100 20 [v0, .int x, v2, v3] st h := zq_isn (by decide +kernel : decode (zco 100) 19 = .ok (.istore_n 1, 1)) (by decide +kernel) rfl
theorem q100_20 {x : Int32} : zev xs L 100 20 [v0, v1, .int x, v3] st h = zev xs L 100 23 [v0, v1, .int (x + nI 1), v3] st h := zq_inc (by decide +kernel : decode (zco 100) 20 = .ok (.iinc 2 1, 3)) rfl (by decide +kernel) (zn_1 x) rfl
theorem q100_23 : zev xs L 100 23 ls st h = zev xs L 100 2 ls st h := zq_go (by decide +kernel : decode (zco 100) 23 = .ok (.goto (-21), 3)) (by decide +kernel)
theorem q100_26 {x : Int32} : zev xs L 100 26 [.int x, v1, v2, v3] st h = zev xs L 100 27 [.int x, v1, v2, v3] (.int x :: st) h := zq_iln (by decide +kernel : decode (zco 100) 26 = .ok (.iload_n 0, 1)) rfl
theorem q100_27 {x : Int32} : zev xs L 100 27 ls [.int x] h = some (some (.int x), h) := zq_ri (by decide +kernel : decode (zco 100) 27 = .ok (.ireturn, 1)) (by decide +kernel)
end
