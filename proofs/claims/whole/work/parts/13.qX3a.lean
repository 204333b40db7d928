/- X3_init -/
section
variable {xs : Nat → Int32} {L : Nat} {ls st : List Value} {h : ZH} {v0 : Value} 
theorem q25_0 {x : Nat} : zev xs L 25 0 [.ref x] st h = zev xs L 25 1 [.ref x] (.ref x :: st) h := zq_aln (by decide +kernel : decode (zco 25) 0 = .ok (.aload_n 0, 1)) rfl
theorem q25_1 {a : Nat} : zev xs L 25 1 ls [.ref a] h = zev xs L 25 4 ls [] h := zq_obj (by decide +kernel : decode (zco 25) 1 = .ok (.invokespecial 3, 3)) (by decide +kernel) (Nat.le_of_ble_eq_true rfl) (by decide +kernel)
theorem q25_4 {x : Nat} : zev xs L 25 4 [.ref x] st h = zev xs L 25 5 [.ref x] (.ref x :: st) h := zq_aln (by decide +kernel : decode (zco 25) 4 = .ok (.aload_n 0, 1)) rfl
theorem q25_5 : zev xs L 25 5 ls st h = zev xs L 25 7 ls (.int (nI 6) :: st) h := zq_bi (by decide +kernel : decode (zco 25) 5 = .ok (.bipush 6, 2)) rfl
-- .newarray .int at 7
theorem q25_7 {k : Nat} (hk : k ≤ 1000) : zev xs L 25 7 ls (.int (nI k) :: st) h = zev xs L 25 9 ls (.ref h.length :: st) (h ++ [(20, List.replicate k (.int 0))]) := zq_na (by decide +kernel : decode (zco 25) 7 = .ok (.newarray .int, 2)) ⟨nI_pos (by omega), by rw [nI_clamp (by omega)]; exact hk, by decide⟩ (nI_clamp (by omega)) rfl
theorem q25_9 {x a : Nat} : zev xs L 25 9 ls (.ref x :: .ref a :: st) h = (zput h a 3 0 (.ref x)).bind (fun h => zev xs L 25 12 ls st h) := zq_pfa (by decide +kernel : decode (zco 25) 9 = .ok (.putfield 9, 3)) (by decide +kernel) (by decide +kernel)
theorem q25_12 {x : Nat} : zev xs L 25 12 [.ref x] st h = zev xs L 25 13 [.ref x] (.ref x :: st) h := zq_aln (by decide +kernel : decode (zco 25) 12 = .ok (.aload_n 0, 1)) rfl
theorem q25_13 : zev xs L 25 13 ls st h = zev xs L 25 15 ls (.int (nI 6) :: st) h := zq_bi (by decide +kernel : decode (zco 25) 13 = .ok (.bipush 6, 2)) rfl
-- .newarray .int at 15
theorem q25_15 {k : Nat} (hk : k ≤ 1000) : zev xs L 25 15 ls (.int (nI k) :: st) h = zev xs L 25 17 ls (.ref h.length :: st) (h ++ [(20, List.replicate k (.int 0))]) := zq_na (by decide +kernel : decode (zco 25) 15 = .ok (.newarray .int, 2)) ⟨nI_pos (by omega), by rw [nI_clamp (by omega)]; exact hk, by decide⟩ (nI_clamp (by omega)) rfl
theorem q25_17 {x a : Nat} : zev xs L 25 17 ls (.ref x :: .ref a :: st) h = (zput h a 3 1 (.ref x)).bind (fun h => zev xs L 25 20 ls st h) := zq_pfa (by decide +kernel : decode (zco 25) 17 = .ok (.putfield 15, 3)) (by decide +kernel) (by decide +kernel)
theorem q25_20 : zev xs L 25 20 ls [] h = some (none, h) := zq_rv (by decide +kernel : decode (zco 25) 20 = .ok (.return_, 1)) (by decide +kernel)
end
/- X3_add -/
section
variable {xs : Nat → Int32} {L : Nat} {ls st : List Value} {h : ZH} {v0 v1 v2 v3 : Value} 
theorem q26_0 {x : Nat} : zev xs L 26 0 [.ref x, v1, v2, v3] st h = zev xs L 26 1 [.ref x, v1, v2, v3] (.ref x :: st) h := zq_aln (by decide +kernel : decode (zco 26) 0 = .ok (.aload_n 0, 1)) rfl
theorem q26_1 {a : Nat} : zev xs L 26 1 ls (.ref a :: st) h = (zget h a 3 2).bind (fun v => zev xs L 26 4 ls (v :: st) h) := zq_gf (by decide +kernel : decode (zco 26) 1 = .ok (.getfield 18, 3)) (by decide +kernel)
theorem q26_4 : zev xs L 26 4 ls st h = zev xs L 26 6 ls (.int (nI 10) :: st) h := zq_bi (by decide +kernel : decode (zco 26) 4 = .ok (.bipush 10, 2)) rfl
theorem q26_6 {x y : Int32} : zev xs L 26 6 ls (.int y :: .int x :: st) h = if x < y then zev xs L 26 9 ls st h else zev xs L 26 18 ls st h := (zq_ic2 (by decide +kernel : decode (zco 26) 6 = .ok (.if_icmp .ge 12, 3)) (by decide +kernel)).trans (zdge)
theorem q26_9 {x : Int32} : zev xs L 26 9 [v0, .int x, v2, v3] st h = zev xs L 26 10 [v0, .int x, v2, v3] (.int x :: st) h := zq_iln (by decide +kernel : decode (zco 26) 9 = .ok (.iload_n 1, 1)) rfl
theorem q26_10 : zev xs L 26 10 ls st h = zev xs L 26 11 ls (.int (nI 0) :: st) h := zq_ic (by decide +kernel : decode (zco 26) 10 = .ok (.iconst 0, 1)) rfl
theorem q26_11 : zev xs L 26 11 ls st h = zev xs L 26 12 ls (.int (nI 5) :: st) h := zq_ic (by decide +kernel : decode (zco 26) 11 = .ok (.iconst 5, 1)) rfl
theorem q26_12 {x0 : Int32} {x1 : Int32} {x2 : Int32} : zev xs L 26 12 ls [.int x2, .int x1, .int x0] h = (zev xs L 96 0 [.int x0, .int x1, .int x2] [] h).bind (fun q => zev xs L 26 15 ls (q.1.toList ++ []) q.2) := zq_call (av := [.int x0, .int x1, .int x2]) (rest := []) (n := 3) (k := 3) (J := []) (i := .invokestatic 22) (by decide +kernel : decode (zco 26) 12 = .ok (.invokestatic 22, 3)) rfl (by decide +kernel) (by decide +kernel) (Nat.le_of_ble_eq_true rfl) rfl rfl rfl rfl (Or.inr (Or.inl rfl))
theorem q26_15 {x : Int32} : zev xs L 26 15 ls (.int x :: st) h = if x = 0 then zev xs L 26 18 ls st h else zev xs L 26 20 ls st h := (zq_if (by decide +kernel : decode (zco 26) 15 = .ok (.ifCond .ne 5, 3)) (by decide +kernel)).trans (zdecn rfl)
theorem q26_18 : zev xs L 26 18 ls st h = zev xs L 26 19 ls (.int (nI 0) :: st) h := zq_ic (by decide +kernel : decode (zco 26) 18 = .ok (.iconst 0, 1)) rfl
theorem q26_19 {x : Int32} : zev xs L 26 19 ls [.int x] h = if zbk x = true then some (some (.int x), h) else none := zq_rzi (by decide +kernel : decode (zco 26) 19 = .ok (.ireturn, 1)) (by decide +kernel)
theorem q26_20 {x : Int32} : zev xs L 26 20 [v0, v1, v2, .int x] st h = zev xs L 26 21 [v0, v1, v2, .int x] (.int x :: st) h := zq_iln (by decide +kernel : decode (zco 26) 20 = .ok (.iload_n 3, 1)) rfl
theorem q26_21 {x : Int32} : zev xs L 26 21 ls (.int x :: st) h = if x = 0 then zev xs L 26 39 ls st h else zev xs L 26 24 ls st h := (zq_if (by decide +kernel : decode (zco 26) 21 = .ok (.ifCond .eq 18, 3)) (by decide +kernel)).trans (zdec rfl)
theorem q26_24 {x : Nat} : zev xs L 26 24 [.ref x, v1, v2, v3] st h = zev xs L 26 25 [.ref x, v1, v2, v3] (.ref x :: st) h := zq_aln (by decide +kernel : decode (zco 26) 24 = .ok (.aload_n 0, 1)) rfl
theorem q26_25 {a : Nat} : zev xs L 26 25 ls (.ref a :: st) h = (zget h a 3 0).bind (fun v => zev xs L 26 28 ls (v :: st) h) := zq_gf (by decide +kernel : decode (zco 26) 25 = .ok (.getfield 9, 3)) (by decide +kernel)
theorem q26_28 {x : Int32} : zev xs L 26 28 [v0, .int x, v2, v3] st h = zev xs L 26 29 [v0, .int x, v2, v3] (.int x :: st) h := zq_iln (by decide +kernel : decode (zco 26) 28 = .ok (.iload_n 1, 1)) rfl
theorem q26_29 {x : Int32} {a : Nat} : zev xs L 26 29 ls (.int x :: .ref a :: st) h = zev xs L 26 30 ls (.int x :: .ref a :: .int x :: .ref a :: st) h := zq_dup2 (by decide +kernel : decode (zco 26) 29 = .ok (.dup2, 1))
theorem q26_30 {x : Int32} {a : Nat} : zev xs L 26 30 ls (.int x :: .ref a :: st) h = (zaldI h 20 a x).bind (fun x => zev xs L 26 31 ls (.int x :: st) h) := zq_ia (by decide +kernel : decode (zco 26) 30 = .ok (.iaload, 1))
theorem q26_31 : zev xs L 26 31 ls st h = zev xs L 26 32 ls (.int (nI 1) :: st) h := zq_ic (by decide +kernel : decode (zco 26) 31 = .ok (.iconst 1, 1)) rfl
theorem q26_32 {x : Int32} : zev xs L 26 32 [v0, v1, .int x, v3] st h = zev xs L 26 33 [v0, v1, .int x, v3] (.int x :: st) h := zq_iln (by decide +kernel : decode (zco 26) 32 = .ok (.iload_n 2, 1)) rfl
theorem q26_33 {x y : Int32} : zev xs L 26 33 ls (.int y :: .int x :: st) h = zev xs L 26 34 ls (.int (x <<< (y &&& 31)) :: st) h := zq_ishl (by decide +kernel : decode (zco 26) 33 = .ok (.ishl, 1))
theorem q26_34 {x y : Int32} : zev xs L 26 34 ls (.int y :: .int x :: st) h = zev xs L 26 35 ls (.int (x ||| y) :: st) h := zq_ior (by decide +kernel : decode (zco 26) 34 = .ok (.ior, 1))
theorem q26_35 {x y : Int32} {a : Nat} : zev xs L 26 35 ls (.int y :: .int x :: .ref a :: st) h = (zast h 20 a x (.int y)).bind (fun h => zev xs L 26 36 ls st h) := zq_ias (by decide +kernel : decode (zco 26) 35 = .ok (.iastore, 1))
theorem q26_36 : zev xs L 26 36 ls st h = zev xs L 26 51 ls st h := zq_go (by decide +kernel : decode (zco 26) 36 = .ok (.goto 15, 3)) (by decide +kernel)
theorem q26_39 {x : Nat} : zev xs L 26 39 [.ref x, v1, v2, v3] st h = zev xs L 26 40 [.ref x, v1, v2, v3] (.ref x :: st) h := zq_aln (by decide +kernel : decode (zco 26) 39 = .ok (.aload_n 0, 1)) rfl
theorem q26_40 {a : Nat} : zev xs L 26 40 ls (.ref a :: st) h = (zget h a 3 1).bind (fun v => zev xs L 26 43 ls (v :: st) h) := zq_gf (by decide +kernel : decode (zco 26) 40 = .ok (.getfield 15, 3)) (by decide +kernel)
theorem q26_43 {x : Int32} : zev xs L 26 43 [v0, .int x, v2, v3] st h = zev xs L 26 44 [v0, .int x, v2, v3] (.int x :: st) h := zq_iln (by decide +kernel : decode (zco 26) 43 = .ok (.iload_n 1, 1)) rfl
theorem q26_44 {x : Int32} {a : Nat} : zev xs L 26 44 ls (.int x :: .ref a :: st) h = zev xs L 26 45 ls (.int x :: .ref a :: .int x :: .ref a :: st) h := zq_dup2 (by decide +kernel : decode (zco 26) 44 = .ok (.dup2, 1))
theorem q26_45 {x : Int32} {a : Nat} : zev xs L 26 45 ls (.int x :: .ref a :: st) h = (zaldI h 20 a x).bind (fun x => zev xs L 26 46 ls (.int x :: st) h) := zq_ia (by decide +kernel : decode (zco 26) 45 = .ok (.iaload, 1))
theorem q26_46 : zev xs L 26 46 ls st h = zev xs L 26 47 ls (.int (nI 1) :: st) h := zq_ic (by decide +kernel : decode (zco 26) 46 = .ok (.iconst 1, 1)) rfl
theorem q26_47 {x : Int32} : zev xs L 26 47 [v0, v1, .int x, v3] st h = zev xs L 26 48 [v0, v1, .int x, v3] (.int x :: st) h := zq_iln (by decide +kernel : decode (zco 26) 47 = .ok (.iload_n 2, 1)) rfl
theorem q26_48 {x y : Int32} : zev xs L 26 48 ls (.int y :: .int x :: st) h = zev xs L 26 49 ls (.int (x <<< (y &&& 31)) :: st) h := zq_ishl (by decide +kernel : decode (zco 26) 48 = .ok (.ishl, 1))
theorem q26_49 {x y : Int32} : zev xs L 26 49 ls (.int y :: .int x :: st) h = zev xs L 26 50 ls (.int (x ||| y) :: st) h := zq_ior (by decide +kernel : decode (zco 26) 49 = .ok (.ior, 1))
theorem q26_50 {x y : Int32} {a : Nat} : zev xs L 26 50 ls (.int y :: .int x :: .ref a :: st) h = (zast h 20 a x (.int y)).bind (fun h => zev xs L 26 51 ls st h) := zq_ias (by decide +kernel : decode (zco 26) 50 = .ok (.iastore, 1))
theorem q26_51 {x : Nat} : zev xs L 26 51 [.ref x, v1, v2, v3] st h = zev xs L 26 52 [.ref x, v1, v2, v3] (.ref x :: st) h := zq_aln (by decide +kernel : decode (zco 26) 51 = .ok (.aload_n 0, 1)) rfl
theorem q26_52 {x : Nat} : zev xs L 26 52 ls (.ref x :: st) h = zev xs L 26 53 ls (.ref x :: .ref x :: st) h := zq_dupa (by decide +kernel : decode (zco 26) 52 = .ok (.dup, 1))
theorem q26_53 {a : Nat} : zev xs L 26 53 ls (.ref a :: st) h = (zget h a 3 2).bind (fun v => zev xs L 26 56 ls (v :: st) h) := zq_gf (by decide +kernel : decode (zco 26) 53 = .ok (.getfield 18, 3)) (by decide +kernel)
theorem q26_56 : zev xs L 26 56 ls st h = zev xs L 26 57 ls (.int (nI 1) :: st) h := zq_ic (by decide +kernel : decode (zco 26) 56 = .ok (.iconst 1, 1)) rfl
theorem q26_57 {x y : Int32} : zev xs L 26 57 ls (.int y :: .int x :: st) h = zev xs L 26 58 ls (.int (x + y) :: st) h := zq_iadd (by decide +kernel : decode (zco 26) 57 = .ok (.iadd, 1))
theorem q26_58 {x : Int32} {a : Nat} : zev xs L 26 58 ls (.int x :: .ref a :: st) h = (zput h a 3 2 (.int x)).bind (fun h => zev xs L 26 61 ls st h) := zq_pfi (by decide +kernel : decode (zco 26) 58 = .ok (.putfield 18, 3)) (by decide +kernel) (by decide +kernel)
theorem q26_61 : zev xs L 26 61 ls st h = zev xs L 26 62 ls (.int (nI 1) :: st) h := zq_ic (by decide +kernel : decode (zco 26) 61 = .ok (.iconst 1, 1)) rfl
theorem q26_62 {x : Int32} : zev xs L 26 62 ls [.int x] h = if zbk x = true then some (some (.int x), h) else none := zq_rzi (by decide +kernel : decode (zco 26) 62 = .ok (.ireturn, 1)) (by decide +kernel)
end
/- X3_clear -/
section
variable {xs : Nat → Int32} {L : Nat} {ls st : List Value} {h : ZH} {v0 v1 : Value} 
theorem q27_0 {x : Nat} : zev xs L 27 0 [.ref x, v1] st h = zev xs L 27 1 [.ref x, v1] (.ref x :: st) h := zq_aln (by decide +kernel : decode (zco 27) 0 = .ok (.aload_n 0, 1)) rfl
theorem q27_1 : zev xs L 27 1 ls st h = zev xs L 27 2 ls (.int (nI 0) :: st) h := zq_ic (by decide +kernel : decode (zco 27) 1 = .ok (.iconst 0, 1)) rfl
theorem q27_2 {x : Int32} {a : Nat} : zev xs L 27 2 ls (.int x :: .ref a :: st) h = (zput h a 3 2 (.int x)).bind (fun h => zev xs L 27 5 ls st h) := zq_pfi (by decide +kernel : decode (zco 27) 2 = .ok (.putfield 18, 3)) (by decide +kernel) (by decide +kernel)
theorem q27_5 : zev xs L 27 5 ls st h = zev xs L 27 6 ls (.int (nI 0) :: st) h := zq_ic (by decide +kernel : decode (zco 27) 5 = .ok (.iconst 0, 1)) rfl
theorem q27_6 {x : Int32} : zev xs L 27 6 [v0, v1] (.int x :: st) h = zev xs L 27 7 [v0, .int x] st h := zq_isn (by decide +kernel : decode (zco 27) 6 = .ok (.istore_n 1, 1)) (by decide +kernel) rfl
theorem q27_7 {x : Int32} : zev xs L 27 7 [v0, .int x] st h = zev xs L 27 8 [v0, .int x] (.int x :: st) h := zq_iln (by decide +kernel : decode (zco 27) 7 = .ok (.iload_n 1, 1)) rfl
theorem q27_8 : zev xs L 27 8 ls st h = zev xs L 27 10 ls (.int (nI 6) :: st) h := zq_bi (by decide +kernel : decode (zco 27) 8 = .ok (.bipush 6, 2)) rfl
theorem q27_10 {x y : Int32} : zev xs L 27 10 ls (.int y :: .int x :: st) h = if x < y then zev xs L 27 13 ls st h else zev xs L 27 33 ls st h := (zq_ic2 (by decide +kernel : decode (zco 27) 10 = .ok (.if_icmp .ge 23, 3)) (by decide +kernel)).trans (zdge)
theorem q27_13 {x : Nat} : zev xs L 27 13 [.ref x, v1] st h = zev xs L 27 14 [.ref x, v1] (.ref x :: st) h := zq_aln (by decide +kernel : decode (zco 27) 13 = .ok (.aload_n 0, 1)) rfl
theorem q27_14 {a : Nat} : zev xs L 27 14 ls (.ref a :: st) h = (zget h a 3 0).bind (fun v => zev xs L 27 17 ls (v :: st) h) := zq_gf (by decide +kernel : decode (zco 27) 14 = .ok (.getfield 9, 3)) (by decide +kernel)
theorem q27_17 {x : Int32} : zev xs L 27 17 [v0, .int x] st h = zev xs L 27 18 [v0, .int x] (.int x :: st) h := zq_iln (by decide +kernel : decode (zco 27) 17 = .ok (.iload_n 1, 1)) rfl
theorem q27_18 : zev xs L 27 18 ls st h = zev xs L 27 19 ls (.int (nI 0) :: st) h := zq_ic (by decide +kernel : decode (zco 27) 18 = .ok (.iconst 0, 1)) rfl
theorem q27_19 {x y : Int32} {a : Nat} : zev xs L 27 19 ls (.int y :: .int x :: .ref a :: st) h = (zast h 20 a x (.int y)).bind (fun h => zev xs L 27 20 ls st h) := zq_ias (by decide +kernel : decode (zco 27) 19 = .ok (.iastore, 1))
theorem q27_20 {x : Nat} : zev xs L 27 20 [.ref x, v1] st h = zev xs L 27 21 [.ref x, v1] (.ref x :: st) h := zq_aln (by decide +kernel : decode (zco 27) 20 = .ok (.aload_n 0, 1)) rfl
theorem q27_21 {a : Nat} : zev xs L 27 21 ls (.ref a :: st) h = (zget h a 3 1).bind (fun v => zev xs L 27 24 ls (v :: st) h) := zq_gf (by decide +kernel : decode (zco 27) 21 = .ok (.getfield 15, 3)) (by decide +kernel)
theorem q27_24 {x : Int32} : zev xs L 27 24 [v0, .int x] st h = zev xs L 27 25 [v0, .int x] (.int x :: st) h := zq_iln (by decide +kernel : decode (zco 27) 24 = .ok (.iload_n 1, 1)) rfl
theorem q27_25 : zev xs L 27 25 ls st h = zev xs L 27 26 ls (.int (nI 0) :: st) h := zq_ic (by decide +kernel : decode (zco 27) 25 = .ok (.iconst 0, 1)) rfl
theorem q27_26 {x y : Int32} {a : Nat} : zev xs L 27 26 ls (.int y :: .int x :: .ref a :: st) h = (zast h 20 a x (.int y)).bind (fun h => zev xs L 27 27 ls st h) := zq_ias (by decide +kernel : decode (zco 27) 26 = .ok (.iastore, 1))
theorem q27_27 {x : Int32} : zev xs L 27 27 [v0, .int x] st h = zev xs L 27 30 [v0, .int (x + nI 1)] st h := zq_inc (by decide +kernel : decode (zco 27) 27 = .ok (.iinc 1 1, 3)) rfl (by decide +kernel) (zn_1 x) rfl
theorem q27_30 : zev xs L 27 30 ls st h = zev xs L 27 7 ls st h := zq_go (by decide +kernel : decode (zco 27) 30 = .ok (.goto (-23), 3)) (by decide +kernel)
theorem q27_33 : zev xs L 27 33 ls [] h = some (none, h) := zq_rv (by decide +kernel : decode (zco 27) 33 = .ok (.return_, 1)) (by decide +kernel)
end
/- X3_allow -/
section
variable {xs : Nat → Int32} {L : Nat} {ls st : List Value} {h : ZH} {v0 v1 v2 : Value} 
theorem q28_0 {x : Int32} : zev xs L 28 0 [v0, v1, .int x] st h = zev xs L 28 1 [v0, v1, .int x] (.int x :: st) h := zq_iln (by decide +kernel : decode (zco 28) 0 = .ok (.iload_n 2, 1)) rfl
theorem q28_1 {x : Nat} : zev xs L 28 1 [.ref x, v1, v2] st h = zev xs L 28 2 [.ref x, v1, v2] (.ref x :: st) h := zq_aln (by decide +kernel : decode (zco 28) 1 = .ok (.aload_n 0, 1)) rfl
theorem q28_2 {a : Nat} : zev xs L 28 2 ls (.ref a :: st) h = (zget h a 3 0).bind (fun v => zev xs L 28 5 ls (v :: st) h) := zq_gf (by decide +kernel : decode (zco 28) 2 = .ok (.getfield 9, 3)) (by decide +kernel)
theorem q28_5 {x : Int32} : zev xs L 28 5 [v0, .int x, v2] st h = zev xs L 28 6 [v0, .int x, v2] (.int x :: st) h := zq_iln (by decide +kernel : decode (zco 28) 5 = .ok (.iload_n 1, 1)) rfl
theorem q28_6 {x0 : Nat} {x1 : Int32} {r1 : Value} : zev xs L 28 6 ls [.int x1, .ref x0, r1] h = (zev xs L 98 0 [.ref x0, .int x1] [] h).bind (fun q => zev xs L 28 9 ls (q.1.toList ++ [r1]) q.2) := zq_call (av := [.ref x0, .int x1]) (rest := [r1]) (n := 2) (k := 2) (J := []) (i := .invokestatic 26) (by decide +kernel : decode (zco 28) 6 = .ok (.invokestatic 26, 3)) rfl (by decide +kernel) (by decide +kernel) (Nat.le_of_ble_eq_true rfl) rfl rfl rfl rfl (Or.inr (Or.inl rfl))
theorem q28_9 {x y : Int32} : zev xs L 28 9 ls (.int y :: .int x :: st) h = zev xs L 28 10 ls (.int (x &&& y) :: st) h := zq_iand (by decide +kernel : decode (zco 28) 9 = .ok (.iand, 1))
theorem q28_10 {x : Nat} : zev xs L 28 10 [.ref x, v1, v2] st h = zev xs L 28 11 [.ref x, v1, v2] (.ref x :: st) h := zq_aln (by decide +kernel : decode (zco 28) 10 = .ok (.aload_n 0, 1)) rfl
theorem q28_11 {a : Nat} : zev xs L 28 11 ls (.ref a :: st) h = (zget h a 3 0).bind (fun v => zev xs L 28 14 ls (v :: st) h) := zq_gf (by decide +kernel : decode (zco 28) 11 = .ok (.getfield 9, 3)) (by decide +kernel)
theorem q28_14 {x : Int32} : zev xs L 28 14 [v0, .int x, v2] st h = zev xs L 28 15 [v0, .int x, v2] (.int x :: st) h := zq_iln (by decide +kernel : decode (zco 28) 14 = .ok (.iload_n 1, 1)) rfl
theorem q28_15 {x0 : Nat} {x1 : Int32} {r1 : Value} : zev xs L 28 15 ls [.int x1, .ref x0, r1] h = (zev xs L 98 0 [.ref x0, .int x1] [] h).bind (fun q => zev xs L 28 18 ls (q.1.toList ++ [r1]) q.2) := zq_call (av := [.ref x0, .int x1]) (rest := [r1]) (n := 2) (k := 2) (J := []) (i := .invokestatic 26) (by decide +kernel : decode (zco 28) 15 = .ok (.invokestatic 26, 3)) rfl (by decide +kernel) (by decide +kernel) (Nat.le_of_ble_eq_true rfl) rfl rfl rfl rfl (Or.inr (Or.inl rfl))
theorem q28_18 {x y : Int32} : zev xs L 28 18 ls (.int y :: .int x :: st) h = if x = y then zev xs L 28 21 ls st h else zev xs L 28 38 ls st h := (zq_ic2 (by decide +kernel : decode (zco 28) 18 = .ok (.if_icmp .ne 20, 3)) (by decide +kernel)).trans (zdecn rfl)
theorem q28_21 {x : Int32} : zev xs L 28 21 [v0, v1, .int x] st h = zev xs L 28 22 [v0, v1, .int x] (.int x :: st) h := zq_iln (by decide +kernel : decode (zco 28) 21 = .ok (.iload_n 2, 1)) rfl
theorem q28_22 {x : Nat} : zev xs L 28 22 [.ref x, v1, v2] st h = zev xs L 28 23 [.ref x, v1, v2] (.ref x :: st) h := zq_aln (by decide +kernel : decode (zco 28) 22 = .ok (.aload_n 0, 1)) rfl
theorem q28_23 {a : Nat} : zev xs L 28 23 ls (.ref a :: st) h = (zget h a 3 1).bind (fun v => zev xs L 28 26 ls (v :: st) h) := zq_gf (by decide +kernel : decode (zco 28) 23 = .ok (.getfield 15, 3)) (by decide +kernel)
theorem q28_26 {x : Int32} : zev xs L 28 26 [v0, .int x, v2] st h = zev xs L 28 27 [v0, .int x, v2] (.int x :: st) h := zq_iln (by decide +kernel : decode (zco 28) 26 = .ok (.iload_n 1, 1)) rfl
theorem q28_27 {x0 : Nat} {x1 : Int32} {r1 : Value} : zev xs L 28 27 ls [.int x1, .ref x0, r1] h = (zev xs L 98 0 [.ref x0, .int x1] [] h).bind (fun q => zev xs L 28 30 ls (q.1.toList ++ [r1]) q.2) := zq_call (av := [.ref x0, .int x1]) (rest := [r1]) (n := 2) (k := 2) (J := []) (i := .invokestatic 26) (by decide +kernel : decode (zco 28) 27 = .ok (.invokestatic 26, 3)) rfl (by decide +kernel) (by decide +kernel) (Nat.le_of_ble_eq_true rfl) rfl rfl rfl rfl (Or.inr (Or.inl rfl))
theorem q28_30 {x y : Int32} : zev xs L 28 30 ls (.int y :: .int x :: st) h = zev xs L 28 31 ls (.int (x &&& y) :: st) h := zq_iand (by decide +kernel : decode (zco 28) 30 = .ok (.iand, 1))
theorem q28_31 {x : Int32} : zev xs L 28 31 ls (.int x :: st) h = if x = 0 then zev xs L 28 34 ls st h else zev xs L 28 38 ls st h := (zq_if (by decide +kernel : decode (zco 28) 31 = .ok (.ifCond .ne 7, 3)) (by decide +kernel)).trans (zdecn rfl)
theorem q28_34 : zev xs L 28 34 ls st h = zev xs L 28 35 ls (.int (nI 1) :: st) h := zq_ic (by decide +kernel : decode (zco 28) 34 = .ok (.iconst 1, 1)) rfl
theorem q28_35 : zev xs L 28 35 ls st h = zev xs L 28 39 ls st h := zq_go (by decide +kernel : decode (zco 28) 35 = .ok (.goto 4, 3)) (by decide +kernel)
theorem q28_38 : zev xs L 28 38 ls st h = zev xs L 28 39 ls (.int (nI 0) :: st) h := zq_ic (by decide +kernel : decode (zco 28) 38 = .ok (.iconst 0, 1)) rfl
theorem q28_39 {x : Int32} : zev xs L 28 39 ls [.int x] h = if zbk x = true then some (some (.int x), h) else none := zq_rzi (by decide +kernel : decode (zco 28) 39 = .ok (.ireturn, 1)) (by decide +kernel)
end
