/- X2_init -/
section
variable {xs : Nat → Int32} {L : Nat} {ls st : List Value} {h : ZH} {v0 v1 v2 : Value} 
theorem q21_0 {x : Nat} : zev xs L 21 0 [.ref x, v1, v2] st h = zev xs L 21 1 [.ref x, v1, v2] (.ref x :: st) h := zq_aln (by decide +kernel : decode (zco 21) 0 = .ok (.aload_n 0, 1)) rfl
theorem q21_1 {a : Nat} : zev xs L 21 1 ls [.ref a] h = zev xs L 21 4 ls [] h := zq_obj (by decide +kernel : decode (zco 21) 1 = .ok (.invokespecial 1, 3)) (by decide +kernel) (Nat.le_of_ble_eq_true rfl) (by decide +kernel)
theorem q21_4 {x : Nat} : zev xs L 21 4 [.ref x, v1, v2] st h = zev xs L 21 5 [.ref x, v1, v2] (.ref x :: st) h := zq_aln (by decide +kernel : decode (zco 21) 4 = .ok (.aload_n 0, 1)) rfl
theorem q21_5 : zev xs L 21 5 ls st h = zev xs L 21 6 ls (.int (nI 1) :: st) h := zq_ic (by decide +kernel : decode (zco 21) 5 = .ok (.iconst 1, 1)) rfl
theorem q21_6 {x : Int32} : zev xs L 21 6 [v0, .int x, v2] st h = zev xs L 21 7 [v0, .int x, v2] (.int x :: st) h := zq_iln (by decide +kernel : decode (zco 21) 6 = .ok (.iload_n 1, 1)) rfl
theorem q21_7 {x y : Int32} {r1 : Value} : zev xs L 21 7 ls [.int y, .int x, r1] h = zev xs L 21 10 ls [.int (if x < y then y else x), r1] h := zq_max (by decide +kernel : decode (zco 21) 7 = .ok (.invokestatic 7, 3)) (by decide +kernel) (Nat.le_of_ble_eq_true rfl) (by decide +kernel)
-- .anewarray 13 at 10
theorem q21_10 {k : Nat} (hk : k ≤ 1000) : zev xs L 21 10 ls (.int (nI k) :: st) h = zev xs L 21 13 ls (.ref h.length :: st) (h ++ [(22, List.replicate k .null)]) := zq_nq (by decide +kernel : decode (zco 21) 10 = .ok (.anewarray 13, 3)) ⟨nI_pos (by omega), by rw [nI_clamp (by omega)]; exact hk, by decide +kernel⟩ (nI_clamp (by omega))
theorem q21_13 {x a : Nat} : zev xs L 21 13 ls (.ref x :: .ref a :: st) h = (zput h a 2 0 (.ref x)).bind (fun h => zev xs L 21 16 ls st h) := zq_pfa (by decide +kernel : decode (zco 21) 13 = .ok (.putfield 15, 3)) (by decide +kernel) (by decide +kernel)
theorem q21_16 : zev xs L 21 16 ls st h = zev xs L 21 17 ls (.int (nI 0) :: st) h := zq_ic (by decide +kernel : decode (zco 21) 16 = .ok (.iconst 0, 1)) rfl
theorem q21_17 {x : Int32} : zev xs L 21 17 [v0, v1, v2] (.int x :: st) h = zev xs L 21 18 [v0, v1, .int x] st h := zq_isn (by decide +kernel : decode (zco 21) 17 = .ok (.istore_n 2, 1)) (by decide +kernel) rfl
theorem q21_18 {x : Int32} : zev xs L 21 18 [v0, v1, .int x] st h = zev xs L 21 19 [v0, v1, .int x] (.int x :: st) h := zq_iln (by decide +kernel : decode (zco 21) 18 = .ok (.iload_n 2, 1)) rfl
theorem q21_19 {x : Nat} : zev xs L 21 19 [.ref x, v1, v2] st h = zev xs L 21 20 [.ref x, v1, v2] (.ref x :: st) h := zq_aln (by decide +kernel : decode (zco 21) 19 = .ok (.aload_n 0, 1)) rfl
theorem q21_20 {a : Nat} : zev xs L 21 20 ls (.ref a :: st) h = (zget h a 2 0).bind (fun v => zev xs L 21 23 ls (v :: st) h) := zq_gf (by decide +kernel : decode (zco 21) 20 = .ok (.getfield 15, 3)) (by decide +kernel)
theorem q21_23 {a : Nat} : zev xs L 21 23 ls (.ref a :: st) h = (zaln h a).bind (fun n => zev xs L 21 24 ls (.int (nI n) :: st) h) := zq_len (by decide +kernel : decode (zco 21) 23 = .ok (.arraylength, 1))
theorem q21_24 {x y : Int32} : zev xs L 21 24 ls (.int y :: .int x :: st) h = if x < y then zev xs L 21 27 ls st h else zev xs L 21 46 ls st h := (zq_ic2 (by decide +kernel : decode (zco 21) 24 = .ok (.if_icmp .ge 22, 3)) (by decide +kernel)).trans (zdge)
theorem q21_27 {x : Nat} : zev xs L 21 27 [.ref x, v1, v2] st h = zev xs L 21 28 [.ref x, v1, v2] (.ref x :: st) h := zq_aln (by decide +kernel : decode (zco 21) 27 = .ok (.aload_n 0, 1)) rfl
theorem q21_28 {a : Nat} : zev xs L 21 28 ls (.ref a :: st) h = (zget h a 2 0).bind (fun v => zev xs L 21 31 ls (v :: st) h) := zq_gf (by decide +kernel : decode (zco 21) 28 = .ok (.getfield 15, 3)) (by decide +kernel)
theorem q21_31 {x : Int32} : zev xs L 21 31 [v0, v1, .int x] st h = zev xs L 21 32 [v0, v1, .int x] (.int x :: st) h := zq_iln (by decide +kernel : decode (zco 21) 31 = .ok (.iload_n 2, 1)) rfl
-- .new 13 at 32
theorem q21_32 : zev xs L 21 32 ls st h = zev xs L 21 35 ls (.ref h.length :: st) (h ++ [(1, [.int 0, .int 0, .null, .null, .null, .null, .null])]) := zq_new (by decide +kernel : decode (zco 21) 32 = .ok (.new 13, 3)) (by decide +kernel) (by decide +kernel)
theorem q21_35 {x : Nat} : zev xs L 21 35 ls (.ref x :: st) h = zev xs L 21 36 ls (.ref x :: .ref x :: st) h := zq_dupa (by decide +kernel : decode (zco 21) 35 = .ok (.dup, 1))
theorem q21_36 {a : Nat} {r1 r2 r3 : Value} : zev xs L 21 36 ls [.ref a, r1, r2, r3] h = (zev xs L 13 0 [.ref a] [] h).bind (fun q => zev xs L 21 39 ls (q.1.toList ++ [r1, r2, r3]) q.2) := zq_call (av := [.ref a]) (rest := [r1, r2, r3]) (n := 1) (k := 1) (J := []) (i := .invokespecial 21) (by decide +kernel : decode (zco 21) 36 = .ok (.invokespecial 21, 3)) rfl (by decide +kernel) (by decide +kernel) (Nat.le_of_ble_eq_true rfl) rfl rfl rfl rfl (Or.inr (Or.inr ⟨_, _, rfl, Or.inr (Or.inl rfl)⟩))
theorem q21_39 {x : Int32} {a y : Nat} (ht : ztag h y = some 1) : zev xs L 21 39 ls (.ref y :: .int x :: .ref a :: st) h = (zast h 22 a x (.ref y)).bind (fun h => zev xs L 21 40 ls st h) := zq_aas (by decide +kernel : decode (zco 21) 39 = .ok (.aastore, 1)) ht
theorem q21_40 {x : Int32} : zev xs L 21 40 [v0, v1, .int x] st h = zev xs L 21 43 [v0, v1, .int (x + nI 1)] st h := zq_inc (by decide +kernel : decode (zco 21) 40 = .ok (.iinc 2 1, 3)) rfl (by decide +kernel) (zn_1 x) rfl
theorem q21_43 : zev xs L 21 43 ls st h = zev xs L 21 18 ls st h := zq_go (by decide +kernel : decode (zco 21) 43 = .ok (.goto (-25), 3)) (by decide +kernel)
theorem q21_46 : zev xs L 21 46 ls [] h = some (none, h) := zq_rv (by decide +kernel : decode (zco 21) 46 = .ok (.return_, 1)) (by decide +kernel)
end
/- X2_push -/
section
variable {xs : Nat → Int32} {L : Nat} {ls st : List Value} {h : ZH} {v0 v1 : Value} 
theorem q22_0 {x : Nat} : zev xs L 22 0 [.ref x, v1] st h = zev xs L 22 1 [.ref x, v1] (.ref x :: st) h := zq_aln (by decide +kernel : decode (zco 22) 0 = .ok (.aload_n 0, 1)) rfl
theorem q22_1 {a : Nat} : zev xs L 22 1 ls (.ref a :: st) h = (zget h a 2 1).bind (fun v => zev xs L 22 4 ls (v :: st) h) := zq_gf (by decide +kernel : decode (zco 22) 1 = .ok (.getfield 22, 3)) (by decide +kernel)
theorem q22_4 {x : Nat} : zev xs L 22 4 [.ref x, v1] st h = zev xs L 22 5 [.ref x, v1] (.ref x :: st) h := zq_aln (by decide +kernel : decode (zco 22) 4 = .ok (.aload_n 0, 1)) rfl
theorem q22_5 {a : Nat} : zev xs L 22 5 ls (.ref a :: st) h = (zget h a 2 0).bind (fun v => zev xs L 22 8 ls (v :: st) h) := zq_gf (by decide +kernel : decode (zco 22) 5 = .ok (.getfield 15, 3)) (by decide +kernel)
theorem q22_8 {a : Nat} : zev xs L 22 8 ls (.ref a :: st) h = (zaln h a).bind (fun n => zev xs L 22 9 ls (.int (nI n) :: st) h) := zq_len (by decide +kernel : decode (zco 22) 8 = .ok (.arraylength, 1))
theorem q22_9 {x y : Int32} : zev xs L 22 9 ls (.int y :: .int x :: st) h = if x < y then zev xs L 22 16 ls st h else zev xs L 22 12 ls st h := (zq_ic2 (by decide +kernel : decode (zco 22) 9 = .ok (.if_icmp .lt 7, 3)) (by decide +kernel)).trans (zdec rfl)
theorem q22_12 {x : Nat} : zev xs L 22 12 [.ref x, v1] st h = zev xs L 22 13 [.ref x, v1] (.ref x :: st) h := zq_aln (by decide +kernel : decode (zco 22) 12 = .ok (.aload_n 0, 1)) rfl
theorem q22_13 {a : Nat} (ht : ztag h a = some 2) : zev xs L 22 13 ls [.ref a] h = (zev xs L 23 0 [.ref a, .null, .null] [] h).bind (fun q => zev xs L 22 16 ls (q.1.toList ++ []) q.2) := zq_call (av := [.ref a]) (rest := []) (n := 1) (k := 3) (J := []) (i := .invokevirtual 26) (by decide +kernel : decode (zco 22) 13 = .ok (.invokevirtual 26, 3)) rfl (by decide +kernel) (by decide +kernel) (Nat.le_of_ble_eq_true rfl) rfl rfl rfl rfl (Or.inr (Or.inr ⟨_, _, rfl, Or.inr (Or.inr ⟨rfl, ht⟩)⟩))
theorem q22_16 {x : Nat} : zev xs L 22 16 [.ref x, v1] st h = zev xs L 22 17 [.ref x, v1] (.ref x :: st) h := zq_aln (by decide +kernel : decode (zco 22) 16 = .ok (.aload_n 0, 1)) rfl
theorem q22_17 {a : Nat} : zev xs L 22 17 ls (.ref a :: st) h = (zget h a 2 1).bind (fun v => zev xs L 22 20 ls (v :: st) h) := zq_gf (by decide +kernel : decode (zco 22) 17 = .ok (.getfield 22, 3)) (by decide +kernel)
theorem q22_20 {x : Int32} : zev xs L 22 20 ls (.int x :: st) h = if x < 0 then zev xs L 22 58 ls st h else zev xs L 22 23 ls st h := (zq_if (by decide +kernel : decode (zco 22) 20 = .ok (.ifCond .lt 38, 3)) (by decide +kernel)).trans (zdec rfl)
theorem q22_23 {x : Nat} : zev xs L 22 23 [.ref x, v1] st h = zev xs L 22 24 [.ref x, v1] (.ref x :: st) h := zq_aln (by decide +kernel : decode (zco 22) 23 = .ok (.aload_n 0, 1)) rfl
theorem q22_24 {a : Nat} : zev xs L 22 24 ls (.ref a :: st) h = (zget h a 2 1).bind (fun v => zev xs L 22 27 ls (v :: st) h) := zq_gf (by decide +kernel : decode (zco 22) 24 = .ok (.getfield 22, 3)) (by decide +kernel)
theorem q22_27 {x : Nat} : zev xs L 22 27 [.ref x, v1] st h = zev xs L 22 28 [.ref x, v1] (.ref x :: st) h := zq_aln (by decide +kernel : decode (zco 22) 27 = .ok (.aload_n 0, 1)) rfl
theorem q22_28 {a : Nat} : zev xs L 22 28 ls (.ref a :: st) h = (zget h a 2 0).bind (fun v => zev xs L 22 31 ls (v :: st) h) := zq_gf (by decide +kernel : decode (zco 22) 28 = .ok (.getfield 15, 3)) (by decide +kernel)
theorem q22_31 {a : Nat} : zev xs L 22 31 ls (.ref a :: st) h = (zaln h a).bind (fun n => zev xs L 22 32 ls (.int (nI n) :: st) h) := zq_len (by decide +kernel : decode (zco 22) 31 = .ok (.arraylength, 1))
theorem q22_32 {x y : Int32} : zev xs L 22 32 ls (.int y :: .int x :: st) h = if x < y then zev xs L 22 35 ls st h else zev xs L 22 58 ls st h := (zq_ic2 (by decide +kernel : decode (zco 22) 32 = .ok (.if_icmp .ge 26, 3)) (by decide +kernel)).trans (zdge)
theorem q22_35 {x : Nat} : zev xs L 22 35 [.ref x, v1] st h = zev xs L 22 36 [.ref x, v1] (.ref x :: st) h := zq_aln (by decide +kernel : decode (zco 22) 35 = .ok (.aload_n 0, 1)) rfl
theorem q22_36 {a : Nat} : zev xs L 22 36 ls (.ref a :: st) h = (zget h a 2 0).bind (fun v => zev xs L 22 39 ls (v :: st) h) := zq_gf (by decide +kernel : decode (zco 22) 36 = .ok (.getfield 15, 3)) (by decide +kernel)
theorem q22_39 {x : Nat} : zev xs L 22 39 [.ref x, v1] st h = zev xs L 22 40 [.ref x, v1] (.ref x :: st) h := zq_aln (by decide +kernel : decode (zco 22) 39 = .ok (.aload_n 0, 1)) rfl
theorem q22_40 {a : Nat} : zev xs L 22 40 ls (.ref a :: st) h = (zget h a 2 1).bind (fun v => zev xs L 22 43 ls (v :: st) h) := zq_gf (by decide +kernel : decode (zco 22) 40 = .ok (.getfield 22, 3)) (by decide +kernel)
theorem q22_43 {x : Int32} {a : Nat} : zev xs L 22 43 ls (.int x :: .ref a :: st) h = (zaldA h a x).bind (fun x => zev xs L 22 44 ls (.ref x :: st) h) := zq_aa (by decide +kernel : decode (zco 22) 43 = .ok (.aaload, 1))
theorem q22_44 {x : Nat} : zev xs L 22 44 [v0, .ref x] st h = zev xs L 22 45 [v0, .ref x] (.ref x :: st) h := zq_aln (by decide +kernel : decode (zco 22) 44 = .ok (.aload_n 1, 1)) rfl
theorem q22_45 {a : Nat} {x0 : Nat} (ht : ztag h a = some 1) : zev xs L 22 45 ls [.ref x0, .ref a] h = (zev xs L 15 0 [.ref a, .ref x0] [] h).bind (fun q => zev xs L 22 48 ls (q.1.toList ++ []) q.2) := zq_call (av := [.ref a, .ref x0]) (rest := []) (n := 2) (k := 2) (J := []) (i := .invokevirtual 29) (by decide +kernel : decode (zco 22) 45 = .ok (.invokevirtual 29, 3)) rfl (by decide +kernel) (by decide +kernel) (Nat.le_of_ble_eq_true rfl) rfl rfl rfl rfl (Or.inr (Or.inr ⟨_, _, rfl, Or.inr (Or.inr ⟨rfl, ht⟩)⟩))
theorem q22_48 {x : Nat} : zev xs L 22 48 [.ref x, v1] st h = zev xs L 22 49 [.ref x, v1] (.ref x :: st) h := zq_aln (by decide +kernel : decode (zco 22) 48 = .ok (.aload_n 0, 1)) rfl
theorem q22_49 {x : Nat} : zev xs L 22 49 ls (.ref x :: st) h = zev xs L 22 50 ls (.ref x :: .ref x :: st) h := zq_dupa (by decide +kernel : decode (zco 22) 49 = .ok (.dup, 1))
theorem q22_50 {a : Nat} : zev xs L 22 50 ls (.ref a :: st) h = (zget h a 2 1).bind (fun v => zev xs L 22 53 ls (v :: st) h) := zq_gf (by decide +kernel : decode (zco 22) 50 = .ok (.getfield 22, 3)) (by decide +kernel)
theorem q22_53 : zev xs L 22 53 ls st h = zev xs L 22 54 ls (.int (nI 1) :: st) h := zq_ic (by decide +kernel : decode (zco 22) 53 = .ok (.iconst 1, 1)) rfl
theorem q22_54 {x y : Int32} : zev xs L 22 54 ls (.int y :: .int x :: st) h = zev xs L 22 55 ls (.int (x + y) :: st) h := zq_iadd (by decide +kernel : decode (zco 22) 54 = .ok (.iadd, 1))
theorem q22_55 {x : Int32} {a : Nat} : zev xs L 22 55 ls (.int x :: .ref a :: st) h = (zput h a 2 1 (.int x)).bind (fun h => zev xs L 22 58 ls st h) := zq_pfi (by decide +kernel : decode (zco 22) 55 = .ok (.putfield 22, 3)) (by decide +kernel) (by decide +kernel)
theorem q22_58 : zev xs L 22 58 ls [] h = some (none, h) := zq_rv (by decide +kernel : decode (zco 22) 58 = .ok (.return_, 1)) (by decide +kernel)
end
/- X2_dropOldest -/
section
variable {xs : Nat → Int32} {L : Nat} {ls st : List Value} {h : ZH} {v0 v1 v2 : Value} 
theorem q23_0 {x : Nat} : zev xs L 23 0 [.ref x, v1, v2] st h = zev xs L 23 1 [.ref x, v1, v2] (.ref x :: st) h := zq_aln (by decide +kernel : decode (zco 23) 0 = .ok (.aload_n 0, 1)) rfl
theorem q23_1 {a : Nat} : zev xs L 23 1 ls (.ref a :: st) h = (zget h a 2 0).bind (fun v => zev xs L 23 4 ls (v :: st) h) := zq_gf (by decide +kernel : decode (zco 23) 1 = .ok (.getfield 15, 3)) (by decide +kernel)
theorem q23_4 : zev xs L 23 4 ls st h = zev xs L 23 5 ls (.int (nI 0) :: st) h := zq_ic (by decide +kernel : decode (zco 23) 4 = .ok (.iconst 0, 1)) rfl
theorem q23_5 {x : Int32} {a : Nat} : zev xs L 23 5 ls (.int x :: .ref a :: st) h = (zaldA h a x).bind (fun x => zev xs L 23 6 ls (.ref x :: st) h) := zq_aa (by decide +kernel : decode (zco 23) 5 = .ok (.aaload, 1))
theorem q23_6 {x : Nat} : zev xs L 23 6 [v0, v1, v2] (.ref x :: st) h = zev xs L 23 7 [v0, .ref x, v2] st h := zq_asn (by decide +kernel : decode (zco 23) 6 = .ok (.astore_n 1, 1)) (by decide +kernel) rfl
theorem q23_7 : zev xs L 23 7 ls st h = zev xs L 23 8 ls (.int (nI 1) :: st) h := zq_ic (by decide +kernel : decode (zco 23) 7 = .ok (.iconst 1, 1)) rfl
theorem q23_8 {x : Int32} : zev xs L 23 8 [v0, v1, v2] (.int x :: st) h = zev xs L 23 9 [v0, v1, .int x] st h := zq_isn (by decide +kernel : decode (zco 23) 8 = .ok (.istore_n 2, 1)) (by decide +kernel) rfl
theorem q23_9 {x : Int32} : zev xs L 23 9 [v0, v1, .int x] st h = zev xs L 23 10 [v0, v1, .int x] (.int x :: st) h := zq_iln (by decide +kernel : decode (zco 23) 9 = .ok (.iload_n 2, 1)) rfl
theorem q23_10 {x : Nat} : zev xs L 23 10 [.ref x, v1, v2] st h = zev xs L 23 11 [.ref x, v1, v2] (.ref x :: st) h := zq_aln (by decide +kernel : decode (zco 23) 10 = .ok (.aload_n 0, 1)) rfl
theorem q23_11 {a : Nat} : zev xs L 23 11 ls (.ref a :: st) h = (zget h a 2 0).bind (fun v => zev xs L 23 14 ls (v :: st) h) := zq_gf (by decide +kernel : decode (zco 23) 11 = .ok (.getfield 15, 3)) (by decide +kernel)
theorem q23_14 {a : Nat} : zev xs L 23 14 ls (.ref a :: st) h = (zaln h a).bind (fun n => zev xs L 23 15 ls (.int (nI n) :: st) h) := zq_len (by decide +kernel : decode (zco 23) 14 = .ok (.arraylength, 1))
theorem q23_15 {x y : Int32} : zev xs L 23 15 ls (.int y :: .int x :: st) h = if x < y then zev xs L 23 18 ls st h else zev xs L 23 38 ls st h := (zq_ic2 (by decide +kernel : decode (zco 23) 15 = .ok (.if_icmp .ge 23, 3)) (by decide +kernel)).trans (zdge)
theorem q23_18 {x : Nat} : zev xs L 23 18 [.ref x, v1, v2] st h = zev xs L 23 19 [.ref x, v1, v2] (.ref x :: st) h := zq_aln (by decide +kernel : decode (zco 23) 18 = .ok (.aload_n 0, 1)) rfl
theorem q23_19 {a : Nat} : zev xs L 23 19 ls (.ref a :: st) h = (zget h a 2 0).bind (fun v => zev xs L 23 22 ls (v :: st) h) := zq_gf (by decide +kernel : decode (zco 23) 19 = .ok (.getfield 15, 3)) (by decide +kernel)
theorem q23_22 {x : Int32} : zev xs L 23 22 [v0, v1, .int x] st h = zev xs L 23 23 [v0, v1, .int x] (.int x :: st) h := zq_iln (by decide +kernel : decode (zco 23) 22 = .ok (.iload_n 2, 1)) rfl
theorem q23_23 : zev xs L 23 23 ls st h = zev xs L 23 24 ls (.int (nI 1) :: st) h := zq_ic (by decide +kernel : decode (zco 23) 23 = .ok (.iconst 1, 1)) rfl
theorem q23_24 {x y : Int32} : zev xs L 23 24 ls (.int y :: .int x :: st) h = zev xs L 23 25 ls (.int (x - y) :: st) h := zq_isub (by decide +kernel : decode (zco 23) 24 = .ok (.isub, 1))
theorem q23_25 {x : Nat} : zev xs L 23 25 [.ref x, v1, v2] st h = zev xs L 23 26 [.ref x, v1, v2] (.ref x :: st) h := zq_aln (by decide +kernel : decode (zco 23) 25 = .ok (.aload_n 0, 1)) rfl
theorem q23_26 {a : Nat} : zev xs L 23 26 ls (.ref a :: st) h = (zget h a 2 0).bind (fun v => zev xs L 23 29 ls (v :: st) h) := zq_gf (by decide +kernel : decode (zco 23) 26 = .ok (.getfield 15, 3)) (by decide +kernel)
theorem q23_29 {x : Int32} : zev xs L 23 29 [v0, v1, .int x] st h = zev xs L 23 30 [v0, v1, .int x] (.int x :: st) h := zq_iln (by decide +kernel : decode (zco 23) 29 = .ok (.iload_n 2, 1)) rfl
theorem q23_30 {x : Int32} {a : Nat} : zev xs L 23 30 ls (.int x :: .ref a :: st) h = (zaldA h a x).bind (fun x => zev xs L 23 31 ls (.ref x :: st) h) := zq_aa (by decide +kernel : decode (zco 23) 30 = .ok (.aaload, 1))
theorem q23_31 {x : Int32} {a y : Nat} (ht : ztag h y = some 1) : zev xs L 23 31 ls (.ref y :: .int x :: .ref a :: st) h = (zast h 22 a x (.ref y)).bind (fun h => zev xs L 23 32 ls st h) := zq_aas (by decide +kernel : decode (zco 23) 31 = .ok (.aastore, 1)) ht
theorem q23_32 {x : Int32} : zev xs L 23 32 [v0, v1, .int x] st h = zev xs L 23 35 [v0, v1, .int (x + nI 1)] st h := zq_inc (by decide +kernel : decode (zco 23) 32 = .ok (.iinc 2 1, 3)) rfl (by decide +kernel) (zn_1 x) rfl
theorem q23_35 : zev xs L 23 35 ls st h = zev xs L 23 9 ls st h := zq_go (by decide +kernel : decode (zco 23) 35 = .ok (.goto (-26), 3)) (by decide +kernel)
theorem q23_38 {x : Nat} : zev xs L 23 38 [.ref x, v1, v2] st h = zev xs L 23 39 [.ref x, v1, v2] (.ref x :: st) h := zq_aln (by decide +kernel : decode (zco 23) 38 = .ok (.aload_n 0, 1)) rfl
theorem q23_39 {a : Nat} : zev xs L 23 39 ls (.ref a :: st) h = (zget h a 2 0).bind (fun v => zev xs L 23 42 ls (v :: st) h) := zq_gf (by decide +kernel : decode (zco 23) 39 = .ok (.getfield 15, 3)) (by decide +kernel)
theorem q23_42 {x : Nat} : zev xs L 23 42 [.ref x, v1, v2] st h = zev xs L 23 43 [.ref x, v1, v2] (.ref x :: st) h := zq_aln (by decide +kernel : decode (zco 23) 42 = .ok (.aload_n 0, 1)) rfl
theorem q23_43 {a : Nat} : zev xs L 23 43 ls (.ref a :: st) h = (zget h a 2 0).bind (fun v => zev xs L 23 46 ls (v :: st) h) := zq_gf (by decide +kernel : decode (zco 23) 43 = .ok (.getfield 15, 3)) (by decide +kernel)
theorem q23_46 {a : Nat} : zev xs L 23 46 ls (.ref a :: st) h = (zaln h a).bind (fun n => zev xs L 23 47 ls (.int (nI n) :: st) h) := zq_len (by decide +kernel : decode (zco 23) 46 = .ok (.arraylength, 1))
theorem q23_47 : zev xs L 23 47 ls st h = zev xs L 23 48 ls (.int (nI 1) :: st) h := zq_ic (by decide +kernel : decode (zco 23) 47 = .ok (.iconst 1, 1)) rfl
theorem q23_48 {x y : Int32} : zev xs L 23 48 ls (.int y :: .int x :: st) h = zev xs L 23 49 ls (.int (x - y) :: st) h := zq_isub (by decide +kernel : decode (zco 23) 48 = .ok (.isub, 1))
theorem q23_49 {x : Nat} : zev xs L 23 49 [v0, .ref x, v2] st h = zev xs L 23 50 [v0, .ref x, v2] (.ref x :: st) h := zq_aln (by decide +kernel : decode (zco 23) 49 = .ok (.aload_n 1, 1)) rfl
theorem q23_50 {x : Int32} {a y : Nat} (ht : ztag h y = some 1) : zev xs L 23 50 ls (.ref y :: .int x :: .ref a :: st) h = (zast h 22 a x (.ref y)).bind (fun h => zev xs L 23 51 ls st h) := zq_aas (by decide +kernel : decode (zco 23) 50 = .ok (.aastore, 1)) ht
theorem q23_51 {x : Nat} : zev xs L 23 51 [.ref x, v1, v2] st h = zev xs L 23 52 [.ref x, v1, v2] (.ref x :: st) h := zq_aln (by decide +kernel : decode (zco 23) 51 = .ok (.aload_n 0, 1)) rfl
theorem q23_52 {x : Nat} : zev xs L 23 52 [.ref x, v1, v2] st h = zev xs L 23 53 [.ref x, v1, v2] (.ref x :: st) h := zq_aln (by decide +kernel : decode (zco 23) 52 = .ok (.aload_n 0, 1)) rfl
theorem q23_53 {a : Nat} : zev xs L 23 53 ls (.ref a :: st) h = (zget h a 2 0).bind (fun v => zev xs L 23 56 ls (v :: st) h) := zq_gf (by decide +kernel : decode (zco 23) 53 = .ok (.getfield 15, 3)) (by decide +kernel)
theorem q23_56 {a : Nat} : zev xs L 23 56 ls (.ref a :: st) h = (zaln h a).bind (fun n => zev xs L 23 57 ls (.int (nI n) :: st) h) := zq_len (by decide +kernel : decode (zco 23) 56 = .ok (.arraylength, 1))
theorem q23_57 : zev xs L 23 57 ls st h = zev xs L 23 58 ls (.int (nI 1) :: st) h := zq_ic (by decide +kernel : decode (zco 23) 57 = .ok (.iconst 1, 1)) rfl
theorem q23_58 {x y : Int32} : zev xs L 23 58 ls (.int y :: .int x :: st) h = zev xs L 23 59 ls (.int (x - y) :: st) h := zq_isub (by decide +kernel : decode (zco 23) 58 = .ok (.isub, 1))
theorem q23_59 {x : Int32} {a : Nat} : zev xs L 23 59 ls (.int x :: .ref a :: st) h = (zput h a 2 1 (.int x)).bind (fun h => zev xs L 23 62 ls st h) := zq_pfi (by decide +kernel : decode (zco 23) 59 = .ok (.putfield 22, 3)) (by decide +kernel) (by decide +kernel)
theorem q23_62 : zev xs L 23 62 ls [] h = some (none, h) := zq_rv (by decide +kernel : decode (zco 23) 62 = .ok (.return_, 1)) (by decide +kernel)
end
/- X2_popInto -/
section
variable {xs : Nat → Int32} {L : Nat} {ls st : List Value} {h : ZH} {v0 v1 : Value} 
theorem q24_0 {x : Nat} : zev xs L 24 0 [.ref x, v1] st h = zev xs L 24 1 [.ref x, v1] (.ref x :: st) h := zq_aln (by decide +kernel : decode (zco 24) 0 = .ok (.aload_n 0, 1)) rfl
theorem q24_1 {a : Nat} : zev xs L 24 1 ls (.ref a :: st) h = (zget h a 2 1).bind (fun v => zev xs L 24 4 ls (v :: st) h) := zq_gf (by decide +kernel : decode (zco 24) 1 = .ok (.getfield 22, 3)) (by decide +kernel)
theorem q24_4 {x : Int32} : zev xs L 24 4 ls (.int x :: st) h = if 0 < x then zev xs L 24 7 ls st h else zev xs L 24 19 ls st h := (zq_if (by decide +kernel : decode (zco 24) 4 = .ok (.ifCond .le 15, 3)) (by decide +kernel)).trans (zdge)
theorem q24_7 {x : Nat} : zev xs L 24 7 [.ref x, v1] st h = zev xs L 24 8 [.ref x, v1] (.ref x :: st) h := zq_aln (by decide +kernel : decode (zco 24) 7 = .ok (.aload_n 0, 1)) rfl
theorem q24_8 {a : Nat} : zev xs L 24 8 ls (.ref a :: st) h = (zget h a 2 1).bind (fun v => zev xs L 24 11 ls (v :: st) h) := zq_gf (by decide +kernel : decode (zco 24) 8 = .ok (.getfield 22, 3)) (by decide +kernel)
theorem q24_11 {x : Nat} : zev xs L 24 11 [.ref x, v1] st h = zev xs L 24 12 [.ref x, v1] (.ref x :: st) h := zq_aln (by decide +kernel : decode (zco 24) 11 = .ok (.aload_n 0, 1)) rfl
theorem q24_12 {a : Nat} : zev xs L 24 12 ls (.ref a :: st) h = (zget h a 2 0).bind (fun v => zev xs L 24 15 ls (v :: st) h) := zq_gf (by decide +kernel : decode (zco 24) 12 = .ok (.getfield 15, 3)) (by decide +kernel)
theorem q24_15 {a : Nat} : zev xs L 24 15 ls (.ref a :: st) h = (zaln h a).bind (fun n => zev xs L 24 16 ls (.int (nI n) :: st) h) := zq_len (by decide +kernel : decode (zco 24) 15 = .ok (.arraylength, 1))
theorem q24_16 {x y : Int32} : zev xs L 24 16 ls (.int y :: .int x :: st) h = if y < x then zev xs L 24 19 ls st h else zev xs L 24 21 ls st h := (zq_ic2 (by decide +kernel : decode (zco 24) 16 = .ok (.if_icmp .le 5, 3)) (by decide +kernel)).trans (zdge)
theorem q24_19 : zev xs L 24 19 ls st h = zev xs L 24 20 ls (.int (nI 0) :: st) h := zq_ic (by decide +kernel : decode (zco 24) 19 = .ok (.iconst 0, 1)) rfl
theorem q24_20 {x : Int32} : zev xs L 24 20 ls [.int x] h = if zbk x = true then some (some (.int x), h) else none := zq_rzi (by decide +kernel : decode (zco 24) 20 = .ok (.ireturn, 1)) (by decide +kernel)
theorem q24_21 {x : Nat} : zev xs L 24 21 [.ref x, v1] st h = zev xs L 24 22 [.ref x, v1] (.ref x :: st) h := zq_aln (by decide +kernel : decode (zco 24) 21 = .ok (.aload_n 0, 1)) rfl
theorem q24_22 {x : Nat} : zev xs L 24 22 ls (.ref x :: st) h = zev xs L 24 23 ls (.ref x :: .ref x :: st) h := zq_dupa (by decide +kernel : decode (zco 24) 22 = .ok (.dup, 1))
theorem q24_23 {a : Nat} : zev xs L 24 23 ls (.ref a :: st) h = (zget h a 2 1).bind (fun v => zev xs L 24 26 ls (v :: st) h) := zq_gf (by decide +kernel : decode (zco 24) 23 = .ok (.getfield 22, 3)) (by decide +kernel)
theorem q24_26 : zev xs L 24 26 ls st h = zev xs L 24 27 ls (.int (nI 1) :: st) h := zq_ic (by decide +kernel : decode (zco 24) 26 = .ok (.iconst 1, 1)) rfl
theorem q24_27 {x y : Int32} : zev xs L 24 27 ls (.int y :: .int x :: st) h = zev xs L 24 28 ls (.int (x - y) :: st) h := zq_isub (by decide +kernel : decode (zco 24) 27 = .ok (.isub, 1))
theorem q24_28 {x : Int32} {a : Nat} : zev xs L 24 28 ls (.int x :: .ref a :: st) h = (zput h a 2 1 (.int x)).bind (fun h => zev xs L 24 31 ls st h) := zq_pfi (by decide +kernel : decode (zco 24) 28 = .ok (.putfield 22, 3)) (by decide +kernel) (by decide +kernel)
theorem q24_31 {x : Nat} : zev xs L 24 31 [v0, .ref x] st h = zev xs L 24 32 [v0, .ref x] (.ref x :: st) h := zq_aln (by decide +kernel : decode (zco 24) 31 = .ok (.aload_n 1, 1)) rfl
theorem q24_32 {x : Nat} : zev xs L 24 32 [.ref x, v1] st h = zev xs L 24 33 [.ref x, v1] (.ref x :: st) h := zq_aln (by decide +kernel : decode (zco 24) 32 = .ok (.aload_n 0, 1)) rfl
theorem q24_33 {a : Nat} : zev xs L 24 33 ls (.ref a :: st) h = (zget h a 2 0).bind (fun v => zev xs L 24 36 ls (v :: st) h) := zq_gf (by decide +kernel : decode (zco 24) 33 = .ok (.getfield 15, 3)) (by decide +kernel)
theorem q24_36 {x : Nat} : zev xs L 24 36 [.ref x, v1] st h = zev xs L 24 37 [.ref x, v1] (.ref x :: st) h := zq_aln (by decide +kernel : decode (zco 24) 36 = .ok (.aload_n 0, 1)) rfl
theorem q24_37 {a : Nat} : zev xs L 24 37 ls (.ref a :: st) h = (zget h a 2 1).bind (fun v => zev xs L 24 40 ls (v :: st) h) := zq_gf (by decide +kernel : decode (zco 24) 37 = .ok (.getfield 22, 3)) (by decide +kernel)
theorem q24_40 {x : Int32} {a : Nat} : zev xs L 24 40 ls (.int x :: .ref a :: st) h = (zaldA h a x).bind (fun x => zev xs L 24 41 ls (.ref x :: st) h) := zq_aa (by decide +kernel : decode (zco 24) 40 = .ok (.aaload, 1))
theorem q24_41 {a : Nat} {x0 : Nat} (ht : ztag h a = some 1) : zev xs L 24 41 ls [.ref x0, .ref a] h = (zev xs L 15 0 [.ref a, .ref x0] [] h).bind (fun q => zev xs L 24 44 ls (q.1.toList ++ []) q.2) := zq_call (av := [.ref a, .ref x0]) (rest := []) (n := 2) (k := 2) (J := []) (i := .invokevirtual 29) (by decide +kernel : decode (zco 24) 41 = .ok (.invokevirtual 29, 3)) rfl (by decide +kernel) (by decide +kernel) (Nat.le_of_ble_eq_true rfl) rfl rfl rfl rfl (Or.inr (Or.inr ⟨_, _, rfl, Or.inr (Or.inr ⟨rfl, ht⟩)⟩))
theorem q24_44 : zev xs L 24 44 ls st h = zev xs L 24 45 ls (.int (nI 1) :: st) h := zq_ic (by decide +kernel : decode (zco 24) 44 = .ok (.iconst 1, 1)) rfl
theorem q24_45 {x : Int32} : zev xs L 24 45 ls [.int x] h = if zbk x = true then some (some (.int x), h) else none := zq_rzi (by decide +kernel : decode (zco 24) 45 = .ok (.ireturn, 1)) (by decide +kernel)
end
