/- X1_init -/
section
variable {xs : Nat → Int32} {L : Nat} {ls st : List Value} {h : ZH} {v0 : Value} 
theorem q13_0 {x : Nat} : zev xs L 13 0 [.ref x] st h = zev xs L 13 1 [.ref x] (.ref x :: st) h := zq_aln (by decide +kernel : decode (zco 13) 0 = .ok (.aload_n 0, 1)) rfl
theorem q13_1 {a : Nat} : zev xs L 13 1 ls [.ref a] h = zev xs L 13 4 ls [] h := zq_obj (by decide +kernel : decode (zco 13) 1 = .ok (.invokespecial 3, 3)) (by decide +kernel) (Nat.le_of_ble_eq_true rfl) (by decide +kernel)
theorem q13_4 {x : Nat} : zev xs L 13 4 [.ref x] st h = zev xs L 13 5 [.ref x] (.ref x :: st) h := zq_aln (by decide +kernel : decode (zco 13) 4 = .ok (.aload_n 0, 1)) rfl
theorem q13_5 : zev xs L 13 5 ls st h = zev xs L 13 7 ls (.int (nI 6) :: st) h := zq_bi (by decide +kernel : decode (zco 13) 5 = .ok (.bipush 6, 2)) rfl
-- .newarray .int at 7
theorem q13_7 {k : Nat} (hk : k ≤ 1000) : zev xs L 13 7 ls (.int (nI k) :: st) h = zev xs L 13 9 ls (.ref h.length :: st) (h ++ [(20, List.replicate k (.int 0))]) := zq_na (by decide +kernel : decode (zco 13) 7 = .ok (.newarray .int, 2)) ⟨nI_pos (by omega), by rw [nI_clamp (by omega)]; exact hk, by decide⟩ (nI_clamp (by omega)) rfl
theorem q13_9 {x a : Nat} : zev xs L 13 9 ls (.ref x :: .ref a :: st) h = (zput h a 1 2 (.ref x)).bind (fun h => zev xs L 13 12 ls st h) := zq_pfa (by decide +kernel : decode (zco 13) 9 = .ok (.putfield 9, 3)) (by decide +kernel) (by decide +kernel)
theorem q13_12 {x : Nat} : zev xs L 13 12 [.ref x] st h = zev xs L 13 13 [.ref x] (.ref x :: st) h := zq_aln (by decide +kernel : decode (zco 13) 12 = .ok (.aload_n 0, 1)) rfl
theorem q13_13 : zev xs L 13 13 ls st h = zev xs L 13 15 ls (.int (nI 6) :: st) h := zq_bi (by decide +kernel : decode (zco 13) 13 = .ok (.bipush 6, 2)) rfl
-- .newarray .int at 15
theorem q13_15 {k : Nat} (hk : k ≤ 1000) : zev xs L 13 15 ls (.int (nI k) :: st) h = zev xs L 13 17 ls (.ref h.length :: st) (h ++ [(20, List.replicate k (.int 0))]) := zq_na (by decide +kernel : decode (zco 13) 15 = .ok (.newarray .int, 2)) ⟨nI_pos (by omega), by rw [nI_clamp (by omega)]; exact hk, by decide⟩ (nI_clamp (by omega)) rfl
theorem q13_17 {x a : Nat} : zev xs L 13 17 ls (.ref x :: .ref a :: st) h = (zput h a 1 3 (.ref x)).bind (fun h => zev xs L 13 20 ls st h) := zq_pfa (by decide +kernel : decode (zco 13) 17 = .ok (.putfield 15, 3)) (by decide +kernel) (by decide +kernel)
theorem q13_20 {x : Nat} : zev xs L 13 20 [.ref x] st h = zev xs L 13 21 [.ref x] (.ref x :: st) h := zq_aln (by decide +kernel : decode (zco 13) 20 = .ok (.aload_n 0, 1)) rfl
theorem q13_21 : zev xs L 13 21 ls st h = zev xs L 13 23 ls (.int (nI 6) :: st) h := zq_bi (by decide +kernel : decode (zco 13) 21 = .ok (.bipush 6, 2)) rfl
-- .newarray .int at 23
theorem q13_23 {k : Nat} (hk : k ≤ 1000) : zev xs L 13 23 ls (.int (nI k) :: st) h = zev xs L 13 25 ls (.ref h.length :: st) (h ++ [(20, List.replicate k (.int 0))]) := zq_na (by decide +kernel : decode (zco 13) 23 = .ok (.newarray .int, 2)) ⟨nI_pos (by omega), by rw [nI_clamp (by omega)]; exact hk, by decide⟩ (nI_clamp (by omega)) rfl
theorem q13_25 {x a : Nat} : zev xs L 13 25 ls (.ref x :: .ref a :: st) h = (zput h a 1 4 (.ref x)).bind (fun h => zev xs L 13 28 ls st h) := zq_pfa (by decide +kernel : decode (zco 13) 25 = .ok (.putfield 18, 3)) (by decide +kernel) (by decide +kernel)
theorem q13_28 {x : Nat} : zev xs L 13 28 [.ref x] st h = zev xs L 13 29 [.ref x] (.ref x :: st) h := zq_aln (by decide +kernel : decode (zco 13) 28 = .ok (.aload_n 0, 1)) rfl
theorem q13_29 : zev xs L 13 29 ls st h = zev xs L 13 31 ls (.int (nI 6) :: st) h := zq_bi (by decide +kernel : decode (zco 13) 29 = .ok (.bipush 6, 2)) rfl
-- .newarray .int at 31
theorem q13_31 {k : Nat} (hk : k ≤ 1000) : zev xs L 13 31 ls (.int (nI k) :: st) h = zev xs L 13 33 ls (.ref h.length :: st) (h ++ [(20, List.replicate k (.int 0))]) := zq_na (by decide +kernel : decode (zco 13) 31 = .ok (.newarray .int, 2)) ⟨nI_pos (by omega), by rw [nI_clamp (by omega)]; exact hk, by decide⟩ (nI_clamp (by omega)) rfl
theorem q13_33 {x a : Nat} : zev xs L 13 33 ls (.ref x :: .ref a :: st) h = (zput h a 1 5 (.ref x)).bind (fun h => zev xs L 13 36 ls st h) := zq_pfa (by decide +kernel : decode (zco 13) 33 = .ok (.putfield 21, 3)) (by decide +kernel) (by decide +kernel)
theorem q13_36 {x : Nat} : zev xs L 13 36 [.ref x] st h = zev xs L 13 37 [.ref x] (.ref x :: st) h := zq_aln (by decide +kernel : decode (zco 13) 36 = .ok (.aload_n 0, 1)) rfl
theorem q13_37 : zev xs L 13 37 ls st h = zev xs L 13 39 ls (.int (nI 30) :: st) h := zq_bi (by decide +kernel : decode (zco 13) 37 = .ok (.bipush 30, 2)) rfl
-- .newarray .int at 39
theorem q13_39 {k : Nat} (hk : k ≤ 1000) : zev xs L 13 39 ls (.int (nI k) :: st) h = zev xs L 13 41 ls (.ref h.length :: st) (h ++ [(20, List.replicate k (.int 0))]) := zq_na (by decide +kernel : decode (zco 13) 39 = .ok (.newarray .int, 2)) ⟨nI_pos (by omega), by rw [nI_clamp (by omega)]; exact hk, by decide⟩ (nI_clamp (by omega)) rfl
theorem q13_41 {x a : Nat} : zev xs L 13 41 ls (.ref x :: .ref a :: st) h = (zput h a 1 6 (.ref x)).bind (fun h => zev xs L 13 44 ls st h) := zq_pfa (by decide +kernel : decode (zco 13) 41 = .ok (.putfield 24, 3)) (by decide +kernel) (by decide +kernel)
theorem q13_44 : zev xs L 13 44 ls [] h = some (none, h) := zq_rv (by decide +kernel : decode (zco 13) 44 = .ok (.return_, 1)) (by decide +kernel)
end
/- X1_begin -/
section
variable {xs : Nat → Int32} {L : Nat} {ls st : List Value} {h : ZH} {v0 v1 v2 v3 v4 : Value} 
theorem q14_0 {x : Nat} : zev xs L 14 0 [.ref x, v1, v2, v3, v4] st h = zev xs L 14 1 [.ref x, v1, v2, v3, v4] (.ref x :: st) h := zq_aln (by decide +kernel : decode (zco 14) 0 = .ok (.aload_n 0, 1)) rfl
theorem q14_1 : zev xs L 14 1 ls st h = zev xs L 14 2 ls (.int (nI 0) :: st) h := zq_ic (by decide +kernel : decode (zco 14) 1 = .ok (.iconst 0, 1)) rfl
theorem q14_2 {x : Int32} {a : Nat} : zev xs L 14 2 ls (.int x :: .ref a :: st) h = (zput h a 1 0 (.int x)).bind (fun h => zev xs L 14 5 ls st h) := zq_pfi (by decide +kernel : decode (zco 14) 2 = .ok (.putfield 27, 3)) (by decide +kernel) (by decide +kernel)
theorem q14_5 {x : Nat} : zev xs L 14 5 [.ref x, v1, v2, v3, v4] st h = zev xs L 14 6 [.ref x, v1, v2, v3, v4] (.ref x :: st) h := zq_aln (by decide +kernel : decode (zco 14) 5 = .ok (.aload_n 0, 1)) rfl
theorem q14_6 : zev xs L 14 6 ls st h = zev xs L 14 7 ls (.int (nI 0) :: st) h := zq_ic (by decide +kernel : decode (zco 14) 6 = .ok (.iconst 0, 1)) rfl
theorem q14_7 {x : Int32} {a : Nat} : zev xs L 14 7 ls (.int x :: .ref a :: st) h = (zput h a 1 1 (.int x)).bind (fun h => zev xs L 14 10 ls st h) := zq_pfi (by decide +kernel : decode (zco 14) 7 = .ok (.putfield 31, 3)) (by decide +kernel) (by decide +kernel)
theorem q14_10 : zev xs L 14 10 ls st h = zev xs L 14 11 ls (.int (nI 0) :: st) h := zq_ic (by decide +kernel : decode (zco 14) 10 = .ok (.iconst 0, 1)) rfl
theorem q14_11 {x : Int32} : zev xs L 14 11 [v0, v1, v2, v3, v4] (.int x :: st) h = zev xs L 14 12 [v0, v1, .int x, v3, v4] st h := zq_isn (by decide +kernel : decode (zco 14) 11 = .ok (.istore_n 2, 1)) (by decide +kernel) rfl
theorem q14_12 {x : Int32} : zev xs L 14 12 [v0, v1, .int x, v3, v4] st h = zev xs L 14 13 [v0, v1, .int x, v3, v4] (.int x :: st) h := zq_iln (by decide +kernel : decode (zco 14) 12 = .ok (.iload_n 2, 1)) rfl
theorem q14_13 : zev xs L 14 13 ls st h = zev xs L 14 15 ls (.int (nI 6) :: st) h := zq_bi (by decide +kernel : decode (zco 14) 13 = .ok (.bipush 6, 2)) rfl
theorem q14_15 {x y : Int32} : zev xs L 14 15 ls (.int y :: .int x :: st) h = if x < y then zev xs L 14 18 ls st h else zev xs L 14 52 ls st h := (zq_ic2 (by decide +kernel : decode (zco 14) 15 = .ok (.if_icmp .ge 37, 3)) (by decide +kernel)).trans (zdge)
theorem q14_18 {x : Nat} : zev xs L 14 18 [.ref x, v1, v2, v3, v4] st h = zev xs L 14 19 [.ref x, v1, v2, v3, v4] (.ref x :: st) h := zq_aln (by decide +kernel : decode (zco 14) 18 = .ok (.aload_n 0, 1)) rfl
theorem q14_19 {a : Nat} : zev xs L 14 19 ls (.ref a :: st) h = (zget h a 1 2).bind (fun v => zev xs L 14 22 ls (v :: st) h) := zq_gf (by decide +kernel : decode (zco 14) 19 = .ok (.getfield 9, 3)) (by decide +kernel)
theorem q14_22 {x : Int32} : zev xs L 14 22 [v0, v1, .int x, v3, v4] st h = zev xs L 14 23 [v0, v1, .int x, v3, v4] (.int x :: st) h := zq_iln (by decide +kernel : decode (zco 14) 22 = .ok (.iload_n 2, 1)) rfl
theorem q14_23 {x : Int32} : zev xs L 14 23 [v0, v1, .int x, v3, v4] st h = zev xs L 14 24 [v0, v1, .int x, v3, v4] (.int x :: st) h := zq_iln (by decide +kernel : decode (zco 14) 23 = .ok (.iload_n 2, 1)) rfl
theorem q14_24 {x y : Int32} {a : Nat} : zev xs L 14 24 ls (.int y :: .int x :: .ref a :: st) h = (zast h 20 a x (.int y)).bind (fun h => zev xs L 14 25 ls st h) := zq_ias (by decide +kernel : decode (zco 14) 24 = .ok (.iastore, 1))
theorem q14_25 {x : Nat} : zev xs L 14 25 [.ref x, v1, v2, v3, v4] st h = zev xs L 14 26 [.ref x, v1, v2, v3, v4] (.ref x :: st) h := zq_aln (by decide +kernel : decode (zco 14) 25 = .ok (.aload_n 0, 1)) rfl
theorem q14_26 {a : Nat} : zev xs L 14 26 ls (.ref a :: st) h = (zget h a 1 3).bind (fun v => zev xs L 14 29 ls (v :: st) h) := zq_gf (by decide +kernel : decode (zco 14) 26 = .ok (.getfield 15, 3)) (by decide +kernel)
theorem q14_29 {x : Int32} : zev xs L 14 29 [v0, v1, .int x, v3, v4] st h = zev xs L 14 30 [v0, v1, .int x, v3, v4] (.int x :: st) h := zq_iln (by decide +kernel : decode (zco 14) 29 = .ok (.iload_n 2, 1)) rfl
theorem q14_30 : zev xs L 14 30 ls st h = zev xs L 14 31 ls (.int (nI 0) :: st) h := zq_ic (by decide +kernel : decode (zco 14) 30 = .ok (.iconst 0, 1)) rfl
theorem q14_31 {x y : Int32} {a : Nat} : zev xs L 14 31 ls (.int y :: .int x :: .ref a :: st) h = (zast h 20 a x (.int y)).bind (fun h => zev xs L 14 32 ls st h) := zq_ias (by decide +kernel : decode (zco 14) 31 = .ok (.iastore, 1))
theorem q14_32 {x : Nat} : zev xs L 14 32 [.ref x, v1, v2, v3, v4] st h = zev xs L 14 33 [.ref x, v1, v2, v3, v4] (.ref x :: st) h := zq_aln (by decide +kernel : decode (zco 14) 32 = .ok (.aload_n 0, 1)) rfl
theorem q14_33 {a : Nat} : zev xs L 14 33 ls (.ref a :: st) h = (zget h a 1 4).bind (fun v => zev xs L 14 36 ls (v :: st) h) := zq_gf (by decide +kernel : decode (zco 14) 33 = .ok (.getfield 18, 3)) (by decide +kernel)
theorem q14_36 {x : Int32} : zev xs L 14 36 [v0, v1, .int x, v3, v4] st h = zev xs L 14 37 [v0, v1, .int x, v3, v4] (.int x :: st) h := zq_iln (by decide +kernel : decode (zco 14) 36 = .ok (.iload_n 2, 1)) rfl
theorem q14_37 : zev xs L 14 37 ls st h = zev xs L 14 38 ls (.int (nI 0) :: st) h := zq_ic (by decide +kernel : decode (zco 14) 37 = .ok (.iconst 0, 1)) rfl
theorem q14_38 {x y : Int32} {a : Nat} : zev xs L 14 38 ls (.int y :: .int x :: .ref a :: st) h = (zast h 20 a x (.int y)).bind (fun h => zev xs L 14 39 ls st h) := zq_ias (by decide +kernel : decode (zco 14) 38 = .ok (.iastore, 1))
theorem q14_39 {x : Nat} : zev xs L 14 39 [.ref x, v1, v2, v3, v4] st h = zev xs L 14 40 [.ref x, v1, v2, v3, v4] (.ref x :: st) h := zq_aln (by decide +kernel : decode (zco 14) 39 = .ok (.aload_n 0, 1)) rfl
theorem q14_40 {a : Nat} : zev xs L 14 40 ls (.ref a :: st) h = (zget h a 1 5).bind (fun v => zev xs L 14 43 ls (v :: st) h) := zq_gf (by decide +kernel : decode (zco 14) 40 = .ok (.getfield 21, 3)) (by decide +kernel)
theorem q14_43 {x : Int32} : zev xs L 14 43 [v0, v1, .int x, v3, v4] st h = zev xs L 14 44 [v0, v1, .int x, v3, v4] (.int x :: st) h := zq_iln (by decide +kernel : decode (zco 14) 43 = .ok (.iload_n 2, 1)) rfl
theorem q14_44 : zev xs L 14 44 ls st h = zev xs L 14 45 ls (.int (nI 0) :: st) h := zq_ic (by decide +kernel : decode (zco 14) 44 = .ok (.iconst 0, 1)) rfl
theorem q14_45 {x y : Int32} {a : Nat} : zev xs L 14 45 ls (.int y :: .int x :: .ref a :: st) h = (zast h 20 a x (.int y)).bind (fun h => zev xs L 14 46 ls st h) := zq_ias (by decide +kernel : decode (zco 14) 45 = .ok (.iastore, 1))
theorem q14_46 {x : Int32} : zev xs L 14 46 [v0, v1, .int x, v3, v4] st h = zev xs L 14 49 [v0, v1, .int (x + nI 1), v3, v4] st h := zq_inc (by decide +kernel : decode (zco 14) 46 = .ok (.iinc 2 1, 3)) rfl (by decide +kernel) (zn_1 x) rfl
theorem q14_49 : zev xs L 14 49 ls st h = zev xs L 14 12 ls st h := zq_go (by decide +kernel : decode (zco 14) 49 = .ok (.goto (-37), 3)) (by decide +kernel)
theorem q14_52 : zev xs L 14 52 ls st h = zev xs L 14 53 ls (.int (nI 0) :: st) h := zq_ic (by decide +kernel : decode (zco 14) 52 = .ok (.iconst 0, 1)) rfl
theorem q14_53 {x : Int32} : zev xs L 14 53 [v0, v1, v2, v3, v4] (.int x :: st) h = zev xs L 14 54 [v0, v1, .int x, v3, v4] st h := zq_isn (by decide +kernel : decode (zco 14) 53 = .ok (.istore_n 2, 1)) (by decide +kernel) rfl
theorem q14_54 {x : Int32} : zev xs L 14 54 [v0, v1, .int x, v3, v4] st h = zev xs L 14 55 [v0, v1, .int x, v3, v4] (.int x :: st) h := zq_iln (by decide +kernel : decode (zco 14) 54 = .ok (.iload_n 2, 1)) rfl
theorem q14_55 {x : Nat} : zev xs L 14 55 [.ref x, v1, v2, v3, v4] st h = zev xs L 14 56 [.ref x, v1, v2, v3, v4] (.ref x :: st) h := zq_aln (by decide +kernel : decode (zco 14) 55 = .ok (.aload_n 0, 1)) rfl
theorem q14_56 {a : Nat} : zev xs L 14 56 ls (.ref a :: st) h = (zget h a 1 6).bind (fun v => zev xs L 14 59 ls (v :: st) h) := zq_gf (by decide +kernel : decode (zco 14) 56 = .ok (.getfield 24, 3)) (by decide +kernel)
theorem q14_59 {a : Nat} : zev xs L 14 59 ls (.ref a :: st) h = (zaln h a).bind (fun n => zev xs L 14 60 ls (.int (nI n) :: st) h) := zq_len (by decide +kernel : decode (zco 14) 59 = .ok (.arraylength, 1))
theorem q14_60 {x y : Int32} : zev xs L 14 60 ls (.int y :: .int x :: st) h = if x < y then zev xs L 14 63 ls st h else zev xs L 14 76 ls st h := (zq_ic2 (by decide +kernel : decode (zco 14) 60 = .ok (.if_icmp .ge 16, 3)) (by decide +kernel)).trans (zdge)
theorem q14_63 {x : Nat} : zev xs L 14 63 [.ref x, v1, v2, v3, v4] st h = zev xs L 14 64 [.ref x, v1, v2, v3, v4] (.ref x :: st) h := zq_aln (by decide +kernel : decode (zco 14) 63 = .ok (.aload_n 0, 1)) rfl
theorem q14_64 {a : Nat} : zev xs L 14 64 ls (.ref a :: st) h = (zget h a 1 6).bind (fun v => zev xs L 14 67 ls (v :: st) h) := zq_gf (by decide +kernel : decode (zco 14) 64 = .ok (.getfield 24, 3)) (by decide +kernel)
theorem q14_67 {x : Int32} : zev xs L 14 67 [v0, v1, .int x, v3, v4] st h = zev xs L 14 68 [v0, v1, .int x, v3, v4] (.int x :: st) h := zq_iln (by decide +kernel : decode (zco 14) 67 = .ok (.iload_n 2, 1)) rfl
theorem q14_68 : zev xs L 14 68 ls st h = zev xs L 14 69 ls (.int (nI 0) :: st) h := zq_ic (by decide +kernel : decode (zco 14) 68 = .ok (.iconst 0, 1)) rfl
theorem q14_69 {x y : Int32} {a : Nat} : zev xs L 14 69 ls (.int y :: .int x :: .ref a :: st) h = (zast h 20 a x (.int y)).bind (fun h => zev xs L 14 70 ls st h) := zq_ias (by decide +kernel : decode (zco 14) 69 = .ok (.iastore, 1))
theorem q14_70 {x : Int32} : zev xs L 14 70 [v0, v1, .int x, v3, v4] st h = zev xs L 14 73 [v0, v1, .int (x + nI 1), v3, v4] st h := zq_inc (by decide +kernel : decode (zco 14) 70 = .ok (.iinc 2 1, 3)) rfl (by decide +kernel) (zn_1 x) rfl
theorem q14_73 : zev xs L 14 73 ls st h = zev xs L 14 54 ls st h := zq_go (by decide +kernel : decode (zco 14) 73 = .ok (.goto (-19), 3)) (by decide +kernel)
theorem q14_76 : zev xs L 14 76 ls st h = zev xs L 14 77 ls (.int (nI 0) :: st) h := zq_ic (by decide +kernel : decode (zco 14) 76 = .ok (.iconst 0, 1)) rfl
theorem q14_77 {x : Int32} : zev xs L 14 77 [v0, v1, v2, v3, v4] (.int x :: st) h = zev xs L 14 78 [v0, v1, .int x, v3, v4] st h := zq_isn (by decide +kernel : decode (zco 14) 77 = .ok (.istore_n 2, 1)) (by decide +kernel) rfl
theorem q14_78 : zev xs L 14 78 ls st h = zev xs L 14 79 ls (.int (nI 0) :: st) h := zq_ic (by decide +kernel : decode (zco 14) 78 = .ok (.iconst 0, 1)) rfl
theorem q14_79 {x : Int32} : zev xs L 14 79 [v0, v1, v2, v3, v4] (.int x :: st) h = zev xs L 14 80 [v0, v1, v2, .int x, v4] st h := zq_isn (by decide +kernel : decode (zco 14) 79 = .ok (.istore_n 3, 1)) (by decide +kernel) rfl
theorem q14_80 {x : Int32} : zev xs L 14 80 [v0, v1, v2, .int x, v4] st h = zev xs L 14 81 [v0, v1, v2, .int x, v4] (.int x :: st) h := zq_iln (by decide +kernel : decode (zco 14) 80 = .ok (.iload_n 3, 1)) rfl
theorem q14_81 {x : Nat} : zev xs L 14 81 [v0, .ref x, v2, v3, v4] st h = zev xs L 14 82 [v0, .ref x, v2, v3, v4] (.ref x :: st) h := zq_aln (by decide +kernel : decode (zco 14) 81 = .ok (.aload_n 1, 1)) rfl
theorem q14_82 {a : Nat} : zev xs L 14 82 ls (.ref a :: st) h = (zget h a 5 0).bind (fun v => zev xs L 14 85 ls (v :: st) h) := zq_gf (by decide +kernel : decode (zco 14) 82 = .ok (.getfield 34, 3)) (by decide +kernel)
theorem q14_85 {x y : Int32} : zev xs L 14 85 ls (.int y :: .int x :: st) h = if x < y then zev xs L 14 88 ls st h else zev xs L 14 130 ls st h := (zq_ic2 (by decide +kernel : decode (zco 14) 85 = .ok (.if_icmp .ge 45, 3)) (by decide +kernel)).trans (zdge)
theorem q14_88 : zev xs L 14 88 ls st h = zev xs L 14 89 ls (.int (nI 0) :: st) h := zq_ic (by decide +kernel : decode (zco 14) 88 = .ok (.iconst 0, 1)) rfl
theorem q14_89 {x : Int32} : zev xs L 14 89 [v0, v1, v2, v3, v4] (.int x :: st) h = zev xs L 14 91 [v0, v1, v2, v3, .int x] st h := zq_is (by decide +kernel : decode (zco 14) 89 = .ok (.istore 4, 2)) (by decide +kernel) rfl
theorem q14_91 {x : Int32} : zev xs L 14 91 [v0, v1, v2, v3, .int x] st h = zev xs L 14 93 [v0, v1, v2, v3, .int x] (.int x :: st) h := zq_il (by decide +kernel : decode (zco 14) 91 = .ok (.iload 4, 2)) rfl
theorem q14_93 {x : Nat} : zev xs L 14 93 [v0, .ref x, v2, v3, v4] st h = zev xs L 14 94 [v0, .ref x, v2, v3, v4] (.ref x :: st) h := zq_aln (by decide +kernel : decode (zco 14) 93 = .ok (.aload_n 1, 1)) rfl
theorem q14_94 {a : Nat} : zev xs L 14 94 ls (.ref a :: st) h = (zget h a 5 7).bind (fun v => zev xs L 14 97 ls (v :: st) h) := zq_gf (by decide +kernel : decode (zco 14) 94 = .ok (.getfield 39, 3)) (by decide +kernel)
theorem q14_97 {x : Int32} : zev xs L 14 97 [v0, v1, v2, .int x, v4] st h = zev xs L 14 98 [v0, v1, v2, .int x, v4] (.int x :: st) h := zq_iln (by decide +kernel : decode (zco 14) 97 = .ok (.iload_n 3, 1)) rfl
theorem q14_98 {x : Int32} {a : Nat} : zev xs L 14 98 ls (.int x :: .ref a :: st) h = (zaldI h 20 a x).bind (fun x => zev xs L 14 99 ls (.int x :: st) h) := zq_ia (by decide +kernel : decode (zco 14) 98 = .ok (.iaload, 1))
theorem q14_99 {x y : Int32} : zev xs L 14 99 ls (.int y :: .int x :: st) h = if x < y then zev xs L 14 102 ls st h else zev xs L 14 124 ls st h := (zq_ic2 (by decide +kernel : decode (zco 14) 99 = .ok (.if_icmp .ge 25, 3)) (by decide +kernel)).trans (zdge)
theorem q14_102 {x : Int32} : zev xs L 14 102 [v0, v1, .int x, v3, v4] st h = zev xs L 14 103 [v0, v1, .int x, v3, v4] (.int x :: st) h := zq_iln (by decide +kernel : decode (zco 14) 102 = .ok (.iload_n 2, 1)) rfl
theorem q14_103 : zev xs L 14 103 ls st h = zev xs L 14 105 ls (.int (nI 6) :: st) h := zq_bi (by decide +kernel : decode (zco 14) 103 = .ok (.bipush 6, 2)) rfl
theorem q14_105 {x y : Int32} : zev xs L 14 105 ls (.int y :: .int x :: st) h = if x < y then zev xs L 14 108 ls st h else zev xs L 14 124 ls st h := (zq_ic2 (by decide +kernel : decode (zco 14) 105 = .ok (.if_icmp .ge 19, 3)) (by decide +kernel)).trans (zdge)
theorem q14_108 {x : Nat} : zev xs L 14 108 [.ref x, v1, v2, v3, v4] st h = zev xs L 14 109 [.ref x, v1, v2, v3, v4] (.ref x :: st) h := zq_aln (by decide +kernel : decode (zco 14) 108 = .ok (.aload_n 0, 1)) rfl
theorem q14_109 {a : Nat} : zev xs L 14 109 ls (.ref a :: st) h = (zget h a 1 3).bind (fun v => zev xs L 14 112 ls (v :: st) h) := zq_gf (by decide +kernel : decode (zco 14) 109 = .ok (.getfield 15, 3)) (by decide +kernel)
theorem q14_112 {x : Int32} : zev xs L 14 112 [v0, v1, .int x, v3, v4] st h = zev xs L 14 113 [v0, v1, .int x, v3, v4] (.int x :: st) h := zq_iln (by decide +kernel : decode (zco 14) 112 = .ok (.iload_n 2, 1)) rfl
theorem q14_113 {x : Int32} : zev xs L 14 113 [v0, v1, v2, .int x, v4] st h = zev xs L 14 114 [v0, v1, v2, .int x, v4] (.int x :: st) h := zq_iln (by decide +kernel : decode (zco 14) 113 = .ok (.iload_n 3, 1)) rfl
theorem q14_114 {x y : Int32} {a : Nat} : zev xs L 14 114 ls (.int y :: .int x :: .ref a :: st) h = (zast h 20 a x (.int y)).bind (fun h => zev xs L 14 115 ls st h) := zq_ias (by decide +kernel : decode (zco 14) 114 = .ok (.iastore, 1))
theorem q14_115 {x : Int32} : zev xs L 14 115 [v0, v1, .int x, v3, v4] st h = zev xs L 14 118 [v0, v1, .int (x + nI 1), v3, v4] st h := zq_inc (by decide +kernel : decode (zco 14) 115 = .ok (.iinc 2 1, 3)) rfl (by decide +kernel) (zn_1 x) rfl
theorem q14_118 {x : Int32} : zev xs L 14 118 [v0, v1, v2, v3, .int x] st h = zev xs L 14 121 [v0, v1, v2, v3, .int (x + nI 1)] st h := zq_inc (by decide +kernel : decode (zco 14) 118 = .ok (.iinc 4 1, 3)) rfl (by decide +kernel) (zn_1 x) rfl
theorem q14_121 : zev xs L 14 121 ls st h = zev xs L 14 91 ls st h := zq_go (by decide +kernel : decode (zco 14) 121 = .ok (.goto (-30), 3)) (by decide +kernel)
theorem q14_124 {x : Int32} : zev xs L 14 124 [v0, v1, v2, .int x, v4] st h = zev xs L 14 127 [v0, v1, v2, .int (x + nI 1), v4] st h := zq_inc (by decide +kernel : decode (zco 14) 124 = .ok (.iinc 3 1, 3)) rfl (by decide +kernel) (zn_1 x) rfl
theorem q14_127 : zev xs L 14 127 ls st h = zev xs L 14 80 ls st h := zq_go (by decide +kernel : decode (zco 14) 127 = .ok (.goto (-47), 3)) (by decide +kernel)
theorem q14_130 : zev xs L 14 130 ls [] h = some (none, h) := zq_rv (by decide +kernel : decode (zco 14) 130 = .ok (.return_, 1)) (by decide +kernel)
end
/- X1_copyFrom -/
section
variable {xs : Nat → Int32} {L : Nat} {ls st : List Value} {h : ZH} {v0 v1 : Value} 
theorem q15_0 {x : Nat} : zev xs L 15 0 [.ref x, v1] st h = zev xs L 15 1 [.ref x, v1] (.ref x :: st) h := zq_aln (by decide +kernel : decode (zco 15) 0 = .ok (.aload_n 0, 1)) rfl
theorem q15_1 {x : Nat} : zev xs L 15 1 [v0, .ref x] st h = zev xs L 15 2 [v0, .ref x] (.ref x :: st) h := zq_aln (by decide +kernel : decode (zco 15) 1 = .ok (.aload_n 1, 1)) rfl
theorem q15_2 {a : Nat} : zev xs L 15 2 ls (.ref a :: st) h = (zget h a 1 0).bind (fun v => zev xs L 15 5 ls (v :: st) h) := zq_gf (by decide +kernel : decode (zco 15) 2 = .ok (.getfield 27, 3)) (by decide +kernel)
theorem q15_5 {x : Int32} {a : Nat} : zev xs L 15 5 ls (.int x :: .ref a :: st) h = (zput h a 1 0 (.int x)).bind (fun h => zev xs L 15 8 ls st h) := zq_pfi (by decide +kernel : decode (zco 15) 5 = .ok (.putfield 27, 3)) (by decide +kernel) (by decide +kernel)
theorem q15_8 {x : Nat} : zev xs L 15 8 [.ref x, v1] st h = zev xs L 15 9 [.ref x, v1] (.ref x :: st) h := zq_aln (by decide +kernel : decode (zco 15) 8 = .ok (.aload_n 0, 1)) rfl
theorem q15_9 {x : Nat} : zev xs L 15 9 [v0, .ref x] st h = zev xs L 15 10 [v0, .ref x] (.ref x :: st) h := zq_aln (by decide +kernel : decode (zco 15) 9 = .ok (.aload_n 1, 1)) rfl
theorem q15_10 {a : Nat} : zev xs L 15 10 ls (.ref a :: st) h = (zget h a 1 1).bind (fun v => zev xs L 15 13 ls (v :: st) h) := zq_gf (by decide +kernel : decode (zco 15) 10 = .ok (.getfield 31, 3)) (by decide +kernel)
theorem q15_13 {x : Int32} {a : Nat} : zev xs L 15 13 ls (.int x :: .ref a :: st) h = (zput h a 1 1 (.int x)).bind (fun h => zev xs L 15 16 ls st h) := zq_pfi (by decide +kernel : decode (zco 15) 13 = .ok (.putfield 31, 3)) (by decide +kernel) (by decide +kernel)
theorem q15_16 {x : Nat} : zev xs L 15 16 [v0, .ref x] st h = zev xs L 15 17 [v0, .ref x] (.ref x :: st) h := zq_aln (by decide +kernel : decode (zco 15) 16 = .ok (.aload_n 1, 1)) rfl
theorem q15_17 {a : Nat} : zev xs L 15 17 ls (.ref a :: st) h = (zget h a 1 2).bind (fun v => zev xs L 15 20 ls (v :: st) h) := zq_gf (by decide +kernel : decode (zco 15) 17 = .ok (.getfield 9, 3)) (by decide +kernel)
theorem q15_20 : zev xs L 15 20 ls st h = zev xs L 15 21 ls (.int (nI 0) :: st) h := zq_ic (by decide +kernel : decode (zco 15) 20 = .ok (.iconst 0, 1)) rfl
theorem q15_21 {x : Nat} : zev xs L 15 21 [.ref x, v1] st h = zev xs L 15 22 [.ref x, v1] (.ref x :: st) h := zq_aln (by decide +kernel : decode (zco 15) 21 = .ok (.aload_n 0, 1)) rfl
theorem q15_22 {a : Nat} : zev xs L 15 22 ls (.ref a :: st) h = (zget h a 1 2).bind (fun v => zev xs L 15 25 ls (v :: st) h) := zq_gf (by decide +kernel : decode (zco 15) 22 = .ok (.getfield 9, 3)) (by decide +kernel)
theorem q15_25 : zev xs L 15 25 ls st h = zev xs L 15 26 ls (.int (nI 0) :: st) h := zq_ic (by decide +kernel : decode (zco 15) 25 = .ok (.iconst 0, 1)) rfl
theorem q15_26 : zev xs L 15 26 ls st h = zev xs L 15 28 ls (.int (nI 6) :: st) h := zq_bi (by decide +kernel : decode (zco 15) 26 = .ok (.bipush 6, 2)) rfl
theorem q15_28 {a b k : Nat} (hk : k ≤ 1000) : zev xs L 15 28 ls [.int (nI k), .int (nI 0), .ref a, .int (nI 0), .ref b] h = (zcpy h b a k).bind (fun h => zev xs L 15 31 ls [] h) := zq_cpy (by decide +kernel : decode (zco 15) 28 = .ok (.invokestatic 42, 3)) (by decide +kernel) (Nat.le_of_ble_eq_true rfl) (by decide +kernel) (nI_pos (by omega)) (nI_clamp (by omega))
theorem q15_31 {x : Nat} : zev xs L 15 31 [v0, .ref x] st h = zev xs L 15 32 [v0, .ref x] (.ref x :: st) h := zq_aln (by decide +kernel : decode (zco 15) 31 = .ok (.aload_n 1, 1)) rfl
theorem q15_32 {a : Nat} : zev xs L 15 32 ls (.ref a :: st) h = (zget h a 1 3).bind (fun v => zev xs L 15 35 ls (v :: st) h) := zq_gf (by decide +kernel : decode (zco 15) 32 = .ok (.getfield 15, 3)) (by decide +kernel)
theorem q15_35 : zev xs L 15 35 ls st h = zev xs L 15 36 ls (.int (nI 0) :: st) h := zq_ic (by decide +kernel : decode (zco 15) 35 = .ok (.iconst 0, 1)) rfl
theorem q15_36 {x : Nat} : zev xs L 15 36 [.ref x, v1] st h = zev xs L 15 37 [.ref x, v1] (.ref x :: st) h := zq_aln (by decide +kernel : decode (zco 15) 36 = .ok (.aload_n 0, 1)) rfl
theorem q15_37 {a : Nat} : zev xs L 15 37 ls (.ref a :: st) h = (zget h a 1 3).bind (fun v => zev xs L 15 40 ls (v :: st) h) := zq_gf (by decide +kernel : decode (zco 15) 37 = .ok (.getfield 15, 3)) (by decide +kernel)
theorem q15_40 : zev xs L 15 40 ls st h = zev xs L 15 41 ls (.int (nI 0) :: st) h := zq_ic (by decide +kernel : decode (zco 15) 40 = .ok (.iconst 0, 1)) rfl
theorem q15_41 : zev xs L 15 41 ls st h = zev xs L 15 43 ls (.int (nI 6) :: st) h := zq_bi (by decide +kernel : decode (zco 15) 41 = .ok (.bipush 6, 2)) rfl
theorem q15_43 {a b k : Nat} (hk : k ≤ 1000) : zev xs L 15 43 ls [.int (nI k), .int (nI 0), .ref a, .int (nI 0), .ref b] h = (zcpy h b a k).bind (fun h => zev xs L 15 46 ls [] h) := zq_cpy (by decide +kernel : decode (zco 15) 43 = .ok (.invokestatic 42, 3)) (by decide +kernel) (Nat.le_of_ble_eq_true rfl) (by decide +kernel) (nI_pos (by omega)) (nI_clamp (by omega))
theorem q15_46 {x : Nat} : zev xs L 15 46 [v0, .ref x] st h = zev xs L 15 47 [v0, .ref x] (.ref x :: st) h := zq_aln (by decide +kernel : decode (zco 15) 46 = .ok (.aload_n 1, 1)) rfl
theorem q15_47 {a : Nat} : zev xs L 15 47 ls (.ref a :: st) h = (zget h a 1 4).bind (fun v => zev xs L 15 50 ls (v :: st) h) := zq_gf (by decide +kernel : decode (zco 15) 47 = .ok (.getfield 18, 3)) (by decide +kernel)
theorem q15_50 : zev xs L 15 50 ls st h = zev xs L 15 51 ls (.int (nI 0) :: st) h := zq_ic (by decide +kernel : decode (zco 15) 50 = .ok (.iconst 0, 1)) rfl
theorem q15_51 {x : Nat} : zev xs L 15 51 [.ref x, v1] st h = zev xs L 15 52 [.ref x, v1] (.ref x :: st) h := zq_aln (by decide +kernel : decode (zco 15) 51 = .ok (.aload_n 0, 1)) rfl
theorem q15_52 {a : Nat} : zev xs L 15 52 ls (.ref a :: st) h = (zget h a 1 4).bind (fun v => zev xs L 15 55 ls (v :: st) h) := zq_gf (by decide +kernel : decode (zco 15) 52 = .ok (.getfield 18, 3)) (by decide +kernel)
theorem q15_55 : zev xs L 15 55 ls st h = zev xs L 15 56 ls (.int (nI 0) :: st) h := zq_ic (by decide +kernel : decode (zco 15) 55 = .ok (.iconst 0, 1)) rfl
theorem q15_56 : zev xs L 15 56 ls st h = zev xs L 15 58 ls (.int (nI 6) :: st) h := zq_bi (by decide +kernel : decode (zco 15) 56 = .ok (.bipush 6, 2)) rfl
theorem q15_58 {a b k : Nat} (hk : k ≤ 1000) : zev xs L 15 58 ls [.int (nI k), .int (nI 0), .ref a, .int (nI 0), .ref b] h = (zcpy h b a k).bind (fun h => zev xs L 15 61 ls [] h) := zq_cpy (by decide +kernel : decode (zco 15) 58 = .ok (.invokestatic 42, 3)) (by decide +kernel) (Nat.le_of_ble_eq_true rfl) (by decide +kernel) (nI_pos (by omega)) (nI_clamp (by omega))
theorem q15_61 {x : Nat} : zev xs L 15 61 [v0, .ref x] st h = zev xs L 15 62 [v0, .ref x] (.ref x :: st) h := zq_aln (by decide +kernel : decode (zco 15) 61 = .ok (.aload_n 1, 1)) rfl
theorem q15_62 {a : Nat} : zev xs L 15 62 ls (.ref a :: st) h = (zget h a 1 5).bind (fun v => zev xs L 15 65 ls (v :: st) h) := zq_gf (by decide +kernel : decode (zco 15) 62 = .ok (.getfield 21, 3)) (by decide +kernel)
theorem q15_65 : zev xs L 15 65 ls st h = zev xs L 15 66 ls (.int (nI 0) :: st) h := zq_ic (by decide +kernel : decode (zco 15) 65 = .ok (.iconst 0, 1)) rfl
theorem q15_66 {x : Nat} : zev xs L 15 66 [.ref x, v1] st h = zev xs L 15 67 [.ref x, v1] (.ref x :: st) h := zq_aln (by decide +kernel : decode (zco 15) 66 = .ok (.aload_n 0, 1)) rfl
theorem q15_67 {a : Nat} : zev xs L 15 67 ls (.ref a :: st) h = (zget h a 1 5).bind (fun v => zev xs L 15 70 ls (v :: st) h) := zq_gf (by decide +kernel : decode (zco 15) 67 = .ok (.getfield 21, 3)) (by decide +kernel)
theorem q15_70 : zev xs L 15 70 ls st h = zev xs L 15 71 ls (.int (nI 0) :: st) h := zq_ic (by decide +kernel : decode (zco 15) 70 = .ok (.iconst 0, 1)) rfl
theorem q15_71 : zev xs L 15 71 ls st h = zev xs L 15 73 ls (.int (nI 6) :: st) h := zq_bi (by decide +kernel : decode (zco 15) 71 = .ok (.bipush 6, 2)) rfl
theorem q15_73 {a b k : Nat} (hk : k ≤ 1000) : zev xs L 15 73 ls [.int (nI k), .int (nI 0), .ref a, .int (nI 0), .ref b] h = (zcpy h b a k).bind (fun h => zev xs L 15 76 ls [] h) := zq_cpy (by decide +kernel : decode (zco 15) 73 = .ok (.invokestatic 42, 3)) (by decide +kernel) (Nat.le_of_ble_eq_true rfl) (by decide +kernel) (nI_pos (by omega)) (nI_clamp (by omega))
theorem q15_76 {x : Nat} : zev xs L 15 76 [v0, .ref x] st h = zev xs L 15 77 [v0, .ref x] (.ref x :: st) h := zq_aln (by decide +kernel : decode (zco 15) 76 = .ok (.aload_n 1, 1)) rfl
theorem q15_77 {a : Nat} : zev xs L 15 77 ls (.ref a :: st) h = (zget h a 1 6).bind (fun v => zev xs L 15 80 ls (v :: st) h) := zq_gf (by decide +kernel : decode (zco 15) 77 = .ok (.getfield 24, 3)) (by decide +kernel)
theorem q15_80 : zev xs L 15 80 ls st h = zev xs L 15 81 ls (.int (nI 0) :: st) h := zq_ic (by decide +kernel : decode (zco 15) 80 = .ok (.iconst 0, 1)) rfl
theorem q15_81 {x : Nat} : zev xs L 15 81 [.ref x, v1] st h = zev xs L 15 82 [.ref x, v1] (.ref x :: st) h := zq_aln (by decide +kernel : decode (zco 15) 81 = .ok (.aload_n 0, 1)) rfl
theorem q15_82 {a : Nat} : zev xs L 15 82 ls (.ref a :: st) h = (zget h a 1 6).bind (fun v => zev xs L 15 85 ls (v :: st) h) := zq_gf (by decide +kernel : decode (zco 15) 82 = .ok (.getfield 24, 3)) (by decide +kernel)
theorem q15_85 : zev xs L 15 85 ls st h = zev xs L 15 86 ls (.int (nI 0) :: st) h := zq_ic (by decide +kernel : decode (zco 15) 85 = .ok (.iconst 0, 1)) rfl
theorem q15_86 : zev xs L 15 86 ls st h = zev xs L 15 88 ls (.int (nI 30) :: st) h := zq_bi (by decide +kernel : decode (zco 15) 86 = .ok (.bipush 30, 2)) rfl
theorem q15_88 {a b k : Nat} (hk : k ≤ 1000) : zev xs L 15 88 ls [.int (nI k), .int (nI 0), .ref a, .int (nI 0), .ref b] h = (zcpy h b a k).bind (fun h => zev xs L 15 91 ls [] h) := zq_cpy (by decide +kernel : decode (zco 15) 88 = .ok (.invokestatic 42, 3)) (by decide +kernel) (Nat.le_of_ble_eq_true rfl) (by decide +kernel) (nI_pos (by omega)) (nI_clamp (by omega))
theorem q15_91 : zev xs L 15 91 ls [] h = some (none, h) := zq_rv (by decide +kernel : decode (zco 15) 91 = .ok (.return_, 1)) (by decide +kernel)
end
/- X1_turn -/
section
variable {xs : Nat → Int32} {L : Nat} {ls st : List Value} {h : ZH} {v0 v1 v2 v3 v4 v5 : Value} 
theorem q16_0 : zev xs L 16 0 ls st h = zev xs L 16 1 ls (.int (nI 0) :: st) h := zq_ic (by decide +kernel : decode (zco 16) 0 = .ok (.iconst 0, 1)) rfl
theorem q16_1 {x : Int32} : zev xs L 16 1 [v0, v1, v2, v3, v4, v5] (.int x :: st) h = zev xs L 16 2 [v0, v1, v2, .int x, v4, v5] st h := zq_isn (by decide +kernel : decode (zco 16) 1 = .ok (.istore_n 3, 1)) (by decide +kernel) rfl
theorem q16_2 {x : Int32} : zev xs L 16 2 [v0, v1, v2, .int x, v4, v5] st h = zev xs L 16 3 [v0, v1, v2, .int x, v4, v5] (.int x :: st) h := zq_iln (by decide +kernel : decode (zco 16) 2 = .ok (.iload_n 3, 1)) rfl
theorem q16_3 {x : Nat} : zev xs L 16 3 [v0, .ref x, v2, v3, v4, v5] st h = zev xs L 16 4 [v0, .ref x, v2, v3, v4, v5] (.ref x :: st) h := zq_aln (by decide +kernel : decode (zco 16) 3 = .ok (.aload_n 1, 1)) rfl
theorem q16_4 {a : Nat} : zev xs L 16 4 ls (.ref a :: st) h = (zget h a 5 1).bind (fun v => zev xs L 16 7 ls (v :: st) h) := zq_gf (by decide +kernel : decode (zco 16) 4 = .ok (.getfield 48, 3)) (by decide +kernel)
theorem q16_7 {x y : Int32} : zev xs L 16 7 ls (.int y :: .int x :: st) h = if x < y then zev xs L 16 10 ls st h else zev xs L 16 76 ls st h := (zq_ic2 (by decide +kernel : decode (zco 16) 7 = .ok (.if_icmp .ge 69, 3)) (by decide +kernel)).trans (zdge)
theorem q16_10 {x : Nat} : zev xs L 16 10 [.ref x, v1, v2, v3, v4, v5] st h = zev xs L 16 11 [.ref x, v1, v2, v3, v4, v5] (.ref x :: st) h := zq_aln (by decide +kernel : decode (zco 16) 10 = .ok (.aload_n 0, 1)) rfl
theorem q16_11 {x : Int32} : zev xs L 16 11 [v0, v1, v2, .int x, v4, v5] st h = zev xs L 16 12 [v0, v1, v2, .int x, v4, v5] (.int x :: st) h := zq_iln (by decide +kernel : decode (zco 16) 11 = .ok (.iload_n 3, 1)) rfl
theorem q16_12 {a : Nat} {x0 : Int32} (ht : ztag h a = some 1) : zev xs L 16 12 ls [.int x0, .ref a] h = (zev xs L 18 0 [.ref a, .int x0] [] h).bind (fun q => zev xs L 16 15 ls (q.1.toList ++ []) q.2) := zq_call (av := [.ref a, .int x0]) (rest := []) (n := 2) (k := 2) (J := []) (i := .invokevirtual 51) (by decide +kernel : decode (zco 16) 12 = .ok (.invokevirtual 51, 3)) rfl (by decide +kernel) (by decide +kernel) (Nat.le_of_ble_eq_true rfl) rfl rfl rfl rfl (Or.inr (Or.inr ⟨_, _, rfl, Or.inr (Or.inr ⟨rfl, ht⟩)⟩))
theorem q16_15 {x : Int32} : zev xs L 16 15 [v0, v1, v2, v3, v4, v5] (.int x :: st) h = zev xs L 16 17 [v0, v1, v2, v3, .int x, v5] st h := zq_is (by decide +kernel : decode (zco 16) 15 = .ok (.istore 4, 2)) (by decide +kernel) rfl
theorem q16_17 {x : Nat} : zev xs L 16 17 [.ref x, v1, v2, v3, v4, v5] st h = zev xs L 16 18 [.ref x, v1, v2, v3, v4, v5] (.ref x :: st) h := zq_aln (by decide +kernel : decode (zco 16) 17 = .ok (.aload_n 0, 1)) rfl
theorem q16_18 {a : Nat} : zev xs L 16 18 ls (.ref a :: st) h = (zget h a 1 4).bind (fun v => zev xs L 16 21 ls (v :: st) h) := zq_gf (by decide +kernel : decode (zco 16) 18 = .ok (.getfield 18, 3)) (by decide +kernel)
theorem q16_21 {x : Int32} : zev xs L 16 21 [v0, v1, v2, .int x, v4, v5] st h = zev xs L 16 22 [v0, v1, v2, .int x, v4, v5] (.int x :: st) h := zq_iln (by decide +kernel : decode (zco 16) 21 = .ok (.iload_n 3, 1)) rfl
theorem q16_22 {x : Int32} {a : Nat} : zev xs L 16 22 ls (.int x :: .ref a :: st) h = zev xs L 16 23 ls (.int x :: .ref a :: .int x :: .ref a :: st) h := zq_dup2 (by decide +kernel : decode (zco 16) 22 = .ok (.dup2, 1))
theorem q16_23 {x : Int32} {a : Nat} : zev xs L 16 23 ls (.int x :: .ref a :: st) h = (zaldI h 20 a x).bind (fun x => zev xs L 16 24 ls (.int x :: st) h) := zq_ia (by decide +kernel : decode (zco 16) 23 = .ok (.iaload, 1))
theorem q16_24 {x : Nat} : zev xs L 16 24 [v0, .ref x, v2, v3, v4, v5] st h = zev xs L 16 25 [v0, .ref x, v2, v3, v4, v5] (.ref x :: st) h := zq_aln (by decide +kernel : decode (zco 16) 24 = .ok (.aload_n 1, 1)) rfl
theorem q16_25 {a : Nat} : zev xs L 16 25 ls (.ref a :: st) h = (zget h a 5 6).bind (fun v => zev xs L 16 28 ls (v :: st) h) := zq_gf (by decide +kernel : decode (zco 16) 25 = .ok (.getfield 55, 3)) (by decide +kernel)
theorem q16_28 {x : Int32} : zev xs L 16 28 [v0, v1, v2, v3, .int x, v5] st h = zev xs L 16 30 [v0, v1, v2, v3, .int x, v5] (.int x :: st) h := zq_il (by decide +kernel : decode (zco 16) 28 = .ok (.iload 4, 2)) rfl
theorem q16_30 {x0 : Nat} {x1 : Int32} {r1 r2 r3 : Value} : zev xs L 16 30 ls [.int x1, .ref x0, r1, r2, r3] h = (zev xs L 98 0 [.ref x0, .int x1] [] h).bind (fun q => zev xs L 16 33 ls (q.1.toList ++ [r1, r2, r3]) q.2) := zq_call (av := [.ref x0, .int x1]) (rest := [r1, r2, r3]) (n := 2) (k := 2) (J := []) (i := .invokestatic 58) (by decide +kernel : decode (zco 16) 30 = .ok (.invokestatic 58, 3)) rfl (by decide +kernel) (by decide +kernel) (Nat.le_of_ble_eq_true rfl) rfl rfl rfl rfl (Or.inr (Or.inl rfl))
theorem q16_33 {x y : Int32} : zev xs L 16 33 ls (.int y :: .int x :: st) h = zev xs L 16 34 ls (.int (x + y) :: st) h := zq_iadd (by decide +kernel : decode (zco 16) 33 = .ok (.iadd, 1))
theorem q16_34 {x y : Int32} {a : Nat} : zev xs L 16 34 ls (.int y :: .int x :: .ref a :: st) h = (zast h 20 a x (.int y)).bind (fun h => zev xs L 16 35 ls st h) := zq_ias (by decide +kernel : decode (zco 16) 34 = .ok (.iastore, 1))
theorem q16_35 {x : Int32} : zev xs L 16 35 [v0, v1, v2, .int x, v4, v5] st h = zev xs L 16 36 [v0, v1, v2, .int x, v4, v5] (.int x :: st) h := zq_iln (by decide +kernel : decode (zco 16) 35 = .ok (.iload_n 3, 1)) rfl
theorem q16_36 : zev xs L 16 36 ls st h = zev xs L 16 37 ls (.int (nI 5) :: st) h := zq_ic (by decide +kernel : decode (zco 16) 36 = .ok (.iconst 5, 1)) rfl
theorem q16_37 {x y : Int32} : zev xs L 16 37 ls (.int y :: .int x :: st) h = zev xs L 16 38 ls (.int (x * y) :: st) h := zq_imul (by decide +kernel : decode (zco 16) 37 = .ok (.imul, 1))
theorem q16_38 {x : Int32} : zev xs L 16 38 [v0, v1, v2, v3, .int x, v5] st h = zev xs L 16 40 [v0, v1, v2, v3, .int x, v5] (.int x :: st) h := zq_il (by decide +kernel : decode (zco 16) 38 = .ok (.iload 4, 2)) rfl
theorem q16_40 {x y : Int32} : zev xs L 16 40 ls (.int y :: .int x :: st) h = zev xs L 16 41 ls (.int (x + y) :: st) h := zq_iadd (by decide +kernel : decode (zco 16) 40 = .ok (.iadd, 1))
theorem q16_41 {x : Int32} : zev xs L 16 41 [v0, v1, v2, v3, v4, v5] (.int x :: st) h = zev xs L 16 43 [v0, v1, v2, v3, v4, .int x] st h := zq_is (by decide +kernel : decode (zco 16) 41 = .ok (.istore 5, 2)) (by decide +kernel) rfl
theorem q16_43 {x : Int32} : zev xs L 16 43 [v0, v1, v2, v3, v4, .int x] st h = zev xs L 16 45 [v0, v1, v2, v3, v4, .int x] (.int x :: st) h := zq_il (by decide +kernel : decode (zco 16) 43 = .ok (.iload 5, 2)) rfl
theorem q16_45 : zev xs L 16 45 ls st h = zev xs L 16 46 ls (.int (nI 0) :: st) h := zq_ic (by decide +kernel : decode (zco 16) 45 = .ok (.iconst 0, 1)) rfl
theorem q16_46 {x : Nat} : zev xs L 16 46 [.ref x, v1, v2, v3, v4, v5] st h = zev xs L 16 47 [.ref x, v1, v2, v3, v4, v5] (.ref x :: st) h := zq_aln (by decide +kernel : decode (zco 16) 46 = .ok (.aload_n 0, 1)) rfl
theorem q16_47 {a : Nat} : zev xs L 16 47 ls (.ref a :: st) h = (zget h a 1 6).bind (fun v => zev xs L 16 50 ls (v :: st) h) := zq_gf (by decide +kernel : decode (zco 16) 47 = .ok (.getfield 24, 3)) (by decide +kernel)
theorem q16_50 {a : Nat} : zev xs L 16 50 ls (.ref a :: st) h = (zaln h a).bind (fun n => zev xs L 16 51 ls (.int (nI n) :: st) h) := zq_len (by decide +kernel : decode (zco 16) 50 = .ok (.arraylength, 1))
theorem q16_51 : zev xs L 16 51 ls st h = zev xs L 16 52 ls (.int (nI 1) :: st) h := zq_ic (by decide +kernel : decode (zco 16) 51 = .ok (.iconst 1, 1)) rfl
theorem q16_52 {x y : Int32} : zev xs L 16 52 ls (.int y :: .int x :: st) h = zev xs L 16 53 ls (.int (x - y) :: st) h := zq_isub (by decide +kernel : decode (zco 16) 52 = .ok (.isub, 1))
theorem q16_53 {x0 : Int32} {x1 : Int32} {x2 : Int32} : zev xs L 16 53 ls [.int x2, .int x1, .int x0] h = (zev xs L 96 0 [.int x0, .int x1, .int x2] [] h).bind (fun q => zev xs L 16 56 ls (q.1.toList ++ []) q.2) := zq_call (av := [.int x0, .int x1, .int x2]) (rest := []) (n := 3) (k := 3) (J := []) (i := .invokestatic 62) (by decide +kernel : decode (zco 16) 53 = .ok (.invokestatic 62, 3)) rfl (by decide +kernel) (by decide +kernel) (Nat.le_of_ble_eq_true rfl) rfl rfl rfl rfl (Or.inr (Or.inl rfl))
theorem q16_56 {x : Int32} : zev xs L 16 56 ls (.int x :: st) h = if x = 0 then zev xs L 16 70 ls st h else zev xs L 16 59 ls st h := (zq_if (by decide +kernel : decode (zco 16) 56 = .ok (.ifCond .eq 14, 3)) (by decide +kernel)).trans (zdec rfl)
theorem q16_59 {x : Nat} : zev xs L 16 59 [.ref x, v1, v2, v3, v4, v5] st h = zev xs L 16 60 [.ref x, v1, v2, v3, v4, v5] (.ref x :: st) h := zq_aln (by decide +kernel : decode (zco 16) 59 = .ok (.aload_n 0, 1)) rfl
theorem q16_60 {a : Nat} : zev xs L 16 60 ls (.ref a :: st) h = (zget h a 1 6).bind (fun v => zev xs L 16 63 ls (v :: st) h) := zq_gf (by decide +kernel : decode (zco 16) 60 = .ok (.getfield 24, 3)) (by decide +kernel)
theorem q16_63 {x : Int32} : zev xs L 16 63 [v0, v1, v2, v3, v4, .int x] st h = zev xs L 16 65 [v0, v1, v2, v3, v4, .int x] (.int x :: st) h := zq_il (by decide +kernel : decode (zco 16) 63 = .ok (.iload 5, 2)) rfl
theorem q16_65 {x : Int32} {a : Nat} : zev xs L 16 65 ls (.int x :: .ref a :: st) h = zev xs L 16 66 ls (.int x :: .ref a :: .int x :: .ref a :: st) h := zq_dup2 (by decide +kernel : decode (zco 16) 65 = .ok (.dup2, 1))
theorem q16_66 {x : Int32} {a : Nat} : zev xs L 16 66 ls (.int x :: .ref a :: st) h = (zaldI h 20 a x).bind (fun x => zev xs L 16 67 ls (.int x :: st) h) := zq_ia (by decide +kernel : decode (zco 16) 66 = .ok (.iaload, 1))
theorem q16_67 : zev xs L 16 67 ls st h = zev xs L 16 68 ls (.int (nI 1) :: st) h := zq_ic (by decide +kernel : decode (zco 16) 67 = .ok (.iconst 1, 1)) rfl
theorem q16_68 {x y : Int32} : zev xs L 16 68 ls (.int y :: .int x :: st) h = zev xs L 16 69 ls (.int (x + y) :: st) h := zq_iadd (by decide +kernel : decode (zco 16) 68 = .ok (.iadd, 1))
theorem q16_69 {x y : Int32} {a : Nat} : zev xs L 16 69 ls (.int y :: .int x :: .ref a :: st) h = (zast h 20 a x (.int y)).bind (fun h => zev xs L 16 70 ls st h) := zq_ias (by decide +kernel : decode (zco 16) 69 = .ok (.iastore, 1))
theorem q16_70 {x : Int32} : zev xs L 16 70 [v0, v1, v2, .int x, v4, v5] st h = zev xs L 16 73 [v0, v1, v2, .int (x + nI 1), v4, v5] st h := zq_inc (by decide +kernel : decode (zco 16) 70 = .ok (.iinc 3 1, 3)) rfl (by decide +kernel) (zn_1 x) rfl
theorem q16_73 : zev xs L 16 73 ls st h = zev xs L 16 2 ls st h := zq_go (by decide +kernel : decode (zco 16) 73 = .ok (.goto (-71), 3)) (by decide +kernel)
theorem q16_76 {x : Nat} : zev xs L 16 76 [.ref x, v1, v2, v3, v4, v5] st h = zev xs L 16 77 [.ref x, v1, v2, v3, v4, v5] (.ref x :: st) h := zq_aln (by decide +kernel : decode (zco 16) 76 = .ok (.aload_n 0, 1)) rfl
theorem q16_77 {x : Nat} : zev xs L 16 77 ls (.ref x :: st) h = zev xs L 16 78 ls (.ref x :: .ref x :: st) h := zq_dupa (by decide +kernel : decode (zco 16) 77 = .ok (.dup, 1))
theorem q16_78 {a : Nat} : zev xs L 16 78 ls (.ref a :: st) h = (zget h a 1 0).bind (fun v => zev xs L 16 81 ls (v :: st) h) := zq_gf (by decide +kernel : decode (zco 16) 78 = .ok (.getfield 27, 3)) (by decide +kernel)
theorem q16_81 : zev xs L 16 81 ls st h = zev xs L 16 82 ls (.int (nI 1) :: st) h := zq_ic (by decide +kernel : decode (zco 16) 81 = .ok (.iconst 1, 1)) rfl
theorem q16_82 {x y : Int32} : zev xs L 16 82 ls (.int y :: .int x :: st) h = zev xs L 16 83 ls (.int (x + y) :: st) h := zq_iadd (by decide +kernel : decode (zco 16) 82 = .ok (.iadd, 1))
theorem q16_83 {x : Int32} {a : Nat} : zev xs L 16 83 ls (.int x :: .ref a :: st) h = (zput h a 1 0 (.int x)).bind (fun h => zev xs L 16 86 ls st h) := zq_pfi (by decide +kernel : decode (zco 16) 83 = .ok (.putfield 27, 3)) (by decide +kernel) (by decide +kernel)
theorem q16_86 {x : Nat} : zev xs L 16 86 [v0, .ref x, v2, v3, v4, v5] st h = zev xs L 16 87 [v0, .ref x, v2, v3, v4, v5] (.ref x :: st) h := zq_aln (by decide +kernel : decode (zco 16) 86 = .ok (.aload_n 1, 1)) rfl
theorem q16_87 {a : Nat} : zev xs L 16 87 ls (.ref a :: st) h = (zget h a 5 1).bind (fun v => zev xs L 16 90 ls (v :: st) h) := zq_gf (by decide +kernel : decode (zco 16) 87 = .ok (.getfield 48, 3)) (by decide +kernel)
theorem q16_90 : zev xs L 16 90 ls st h = zev xs L 16 91 ls (.int (nI 1) :: st) h := zq_ic (by decide +kernel : decode (zco 16) 90 = .ok (.iconst 1, 1)) rfl
theorem q16_91 {x y : Int32} : zev xs L 16 91 ls (.int y :: .int x :: st) h = zev xs L 16 92 ls (.int (x - y) :: st) h := zq_isub (by decide +kernel : decode (zco 16) 91 = .ok (.isub, 1))
theorem q16_92 {x : Int32} : zev xs L 16 92 [v0, v1, v2, v3, v4, v5] (.int x :: st) h = zev xs L 16 93 [v0, v1, v2, .int x, v4, v5] st h := zq_isn (by decide +kernel : decode (zco 16) 92 = .ok (.istore_n 3, 1)) (by decide +kernel) rfl
theorem q16_93 {x : Int32} : zev xs L 16 93 [v0, v1, v2, .int x, v4, v5] st h = zev xs L 16 94 [v0, v1, v2, .int x, v4, v5] (.int x :: st) h := zq_iln (by decide +kernel : decode (zco 16) 93 = .ok (.iload_n 3, 1)) rfl
theorem q16_94 : zev xs L 16 94 ls st h = zev xs L 16 95 ls (.int (nI 1) :: st) h := zq_ic (by decide +kernel : decode (zco 16) 94 = .ok (.iconst 1, 1)) rfl
theorem q16_95 {x y : Int32} : zev xs L 16 95 ls (.int y :: .int x :: st) h = if x < y then zev xs L 16 118 ls st h else zev xs L 16 98 ls st h := (zq_ic2 (by decide +kernel : decode (zco 16) 95 = .ok (.if_icmp .lt 23, 3)) (by decide +kernel)).trans (zdec rfl)
theorem q16_98 {x : Nat} : zev xs L 16 98 [.ref x, v1, v2, v3, v4, v5] st h = zev xs L 16 99 [.ref x, v1, v2, v3, v4, v5] (.ref x :: st) h := zq_aln (by decide +kernel : decode (zco 16) 98 = .ok (.aload_n 0, 1)) rfl
theorem q16_99 {a : Nat} : zev xs L 16 99 ls (.ref a :: st) h = (zget h a 1 2).bind (fun v => zev xs L 16 102 ls (v :: st) h) := zq_gf (by decide +kernel : decode (zco 16) 99 = .ok (.getfield 9, 3)) (by decide +kernel)
theorem q16_102 {x : Int32} : zev xs L 16 102 [v0, v1, v2, .int x, v4, v5] st h = zev xs L 16 103 [v0, v1, v2, .int x, v4, v5] (.int x :: st) h := zq_iln (by decide +kernel : decode (zco 16) 102 = .ok (.iload_n 3, 1)) rfl
theorem q16_103 {x : Nat} : zev xs L 16 103 [.ref x, v1, v2, v3, v4, v5] st h = zev xs L 16 104 [.ref x, v1, v2, v3, v4, v5] (.ref x :: st) h := zq_aln (by decide +kernel : decode (zco 16) 103 = .ok (.aload_n 0, 1)) rfl
theorem q16_104 {x : Int32} : zev xs L 16 104 [v0, v1, .int x, v3, v4, v5] st h = zev xs L 16 105 [v0, v1, .int x, v3, v4, v5] (.int x :: st) h := zq_iln (by decide +kernel : decode (zco 16) 104 = .ok (.iload_n 2, 1)) rfl
theorem q16_105 {x : Int32} : zev xs L 16 105 [v0, v1, v2, .int x, v4, v5] st h = zev xs L 16 106 [v0, v1, v2, .int x, v4, v5] (.int x :: st) h := zq_iln (by decide +kernel : decode (zco 16) 105 = .ok (.iload_n 3, 1)) rfl
theorem q16_106 {a : Nat} {x0 : Int32} {x1 : Int32} {r1 r2 : Value} (ht : ztag h a = some 1) : zev xs L 16 106 ls [.int x1, .int x0, .ref a, r1, r2] h = (zev xs L 17 0 [.ref a, .int x0, .int x1, .null, .null] [] h).bind (fun q => zev xs L 16 109 ls (q.1.toList ++ [r1, r2]) q.2) := zq_call (av := [.ref a, .int x0, .int x1]) (rest := [r1, r2]) (n := 3) (k := 5) (J := [3]) (i := .invokevirtual 66) (by decide +kernel : decode (zco 16) 106 = .ok (.invokevirtual 66, 3)) rfl (by decide +kernel) (by decide +kernel) (Nat.le_of_ble_eq_true rfl) rfl rfl rfl rfl (Or.inr (Or.inr ⟨_, _, rfl, Or.inr (Or.inr ⟨rfl, ht⟩)⟩))
theorem q16_109 {x0 : Nat} {x1 : Int32} {x2 : Int32} : zev xs L 16 109 ls [.int x2, .int x1, .ref x0] h = (zev xs L 99 0 [.ref x0, .int x1, .int x2, .null] [] h).bind (fun q => zev xs L 16 112 ls (q.1.toList ++ []) q.2) := zq_call (av := [.ref x0, .int x1, .int x2]) (rest := []) (n := 3) (k := 4) (J := []) (i := .invokestatic 70) (by decide +kernel : decode (zco 16) 109 = .ok (.invokestatic 70, 3)) rfl (by decide +kernel) (by decide +kernel) (Nat.le_of_ble_eq_true rfl) rfl rfl rfl rfl (Or.inr (Or.inl rfl))
theorem q16_112 {x : Int32} : zev xs L 16 112 [v0, v1, v2, .int x, v4, v5] st h = zev xs L 16 115 [v0, v1, v2, .int (x - nI 1), v4, v5] st h := zq_inc (by decide +kernel : decode (zco 16) 112 = .ok (.iinc 3 (-1), 3)) rfl (by decide +kernel) (zn_m1 x) rfl
theorem q16_115 : zev xs L 16 115 ls st h = zev xs L 16 93 ls st h := zq_go (by decide +kernel : decode (zco 16) 115 = .ok (.goto (-22), 3)) (by decide +kernel)
theorem q16_118 : zev xs L 16 118 ls [] h = some (none, h) := zq_rv (by decide +kernel : decode (zco 16) 118 = .ok (.return_, 1)) (by decide +kernel)
end
/- X1_lot -/
section
variable {xs : Nat → Int32} {L : Nat} {ls st : List Value} {h : ZH} {v0 v1 v2 v3 v4 : Value} 
theorem q17_0 : zev xs L 17 0 ls st h = zev xs L 17 3 ls (.long (lN 7919) :: st) h := zq_k2 (by decide +kernel : decode (zco 17) 0 = .ok (.ldc2_w 74, 3)) (by decide +kernel)
theorem q17_3 {x : Int32} : zev xs L 17 3 [v0, .int x, v2, v3, v4] st h = zev xs L 17 4 [v0, .int x, v2, v3, v4] (.int x :: st) h := zq_iln (by decide +kernel : decode (zco 17) 3 = .ok (.iload_n 1, 1)) rfl
theorem q17_4 {x : Int32} : zev xs L 17 4 ls (.int x :: st) h = zev xs L 17 5 ls (.long x.toInt64 :: st) h := zq_i2l (by decide +kernel : decode (zco 17) 4 = .ok (.i2l, 1))
theorem q17_5 {x y : Int64} : zev xs L 17 5 ls (.long y :: .long x :: st) h = zev xs L 17 6 ls (.long (x * y) :: st) h := zq_lmul (by decide +kernel : decode (zco 17) 5 = .ok (.lmul, 1))
theorem q17_6 : zev xs L 17 6 ls st h = zev xs L 17 9 ls (.long (lN 6151) :: st) h := zq_k2 (by decide +kernel : decode (zco 17) 6 = .ok (.ldc2_w 76, 3)) (by decide +kernel)
theorem q17_9 {x : Int32} : zev xs L 17 9 [v0, v1, .int x, v3, v4] st h = zev xs L 17 10 [v0, v1, .int x, v3, v4] (.int x :: st) h := zq_iln (by decide +kernel : decode (zco 17) 9 = .ok (.iload_n 2, 1)) rfl
theorem q17_10 {x : Int32} : zev xs L 17 10 ls (.int x :: st) h = zev xs L 17 11 ls (.long x.toInt64 :: st) h := zq_i2l (by decide +kernel : decode (zco 17) 10 = .ok (.i2l, 1))
theorem q17_11 {x y : Int64} : zev xs L 17 11 ls (.long y :: .long x :: st) h = zev xs L 17 12 ls (.long (x * y) :: st) h := zq_lmul (by decide +kernel : decode (zco 17) 11 = .ok (.lmul, 1))
theorem q17_12 {x y : Int64} : zev xs L 17 12 ls (.long y :: .long x :: st) h = zev xs L 17 13 ls (.long (x + y) :: st) h := zq_ladd (by decide +kernel : decode (zco 17) 12 = .ok (.ladd, 1))
theorem q17_13 : zev xs L 17 13 ls st h = zev xs L 17 16 ls (.long (lN 3571) :: st) h := zq_k2 (by decide +kernel : decode (zco 17) 13 = .ok (.ldc2_w 78, 3)) (by decide +kernel)
theorem q17_16 {x : Nat} : zev xs L 17 16 [.ref x, v1, v2, v3, v4] st h = zev xs L 17 17 [.ref x, v1, v2, v3, v4] (.ref x :: st) h := zq_aln (by decide +kernel : decode (zco 17) 16 = .ok (.aload_n 0, 1)) rfl
theorem q17_17 {a : Nat} : zev xs L 17 17 ls (.ref a :: st) h = (zget h a 1 0).bind (fun v => zev xs L 17 20 ls (v :: st) h) := zq_gf (by decide +kernel : decode (zco 17) 17 = .ok (.getfield 27, 3)) (by decide +kernel)
theorem q17_20 {x : Int32} : zev xs L 17 20 ls (.int x :: st) h = zev xs L 17 21 ls (.long x.toInt64 :: st) h := zq_i2l (by decide +kernel : decode (zco 17) 20 = .ok (.i2l, 1))
theorem q17_21 {x y : Int64} : zev xs L 17 21 ls (.long y :: .long x :: st) h = zev xs L 17 22 ls (.long (x * y) :: st) h := zq_lmul (by decide +kernel : decode (zco 17) 21 = .ok (.lmul, 1))
theorem q17_22 {x y : Int64} : zev xs L 17 22 ls (.long y :: .long x :: st) h = zev xs L 17 23 ls (.long (x + y) :: st) h := zq_ladd (by decide +kernel : decode (zco 17) 22 = .ok (.ladd, 1))
theorem q17_23 : zev xs L 17 23 ls st h = zev xs L 17 24 ls (.long (lN 1) :: st) h := zq_lc (by decide +kernel : decode (zco 17) 23 = .ok (.lconst 1, 1)) rfl
theorem q17_24 {x y : Int64} : zev xs L 17 24 ls (.long y :: .long x :: st) h = zev xs L 17 25 ls (.long (x + y) :: st) h := zq_ladd (by decide +kernel : decode (zco 17) 24 = .ok (.ladd, 1))
theorem q17_25 {x : Int64} : zev xs L 17 25 [v0, v1, v2, v3, v4] (.long x :: st) h = zev xs L 17 26 [v0, v1, v2, .long x, .null] st h := zq_lsn (by decide +kernel : decode (zco 17) 25 = .ok (.lstore_n 3, 1)) (by decide +kernel) rfl
theorem q17_26 {x : Int64} : zev xs L 17 26 [v0, v1, v2, .long x, v4] st h = zev xs L 17 27 [v0, v1, v2, .long x, v4] (.long x :: st) h := zq_lln (by decide +kernel : decode (zco 17) 26 = .ok (.lload_n 3, 1)) rfl
theorem q17_27 {x : Int64} : zev xs L 17 27 [v0, v1, v2, .long x, v4] st h = zev xs L 17 28 [v0, v1, v2, .long x, v4] (.long x :: st) h := zq_lln (by decide +kernel : decode (zco 17) 27 = .ok (.lload_n 3, 1)) rfl
theorem q17_28 {x y : Int64} : zev xs L 17 28 ls (.long y :: .long x :: st) h = zev xs L 17 29 ls (.long (x * y) :: st) h := zq_lmul (by decide +kernel : decode (zco 17) 28 = .ok (.lmul, 1))
theorem q17_29 : zev xs L 17 29 ls st h = zev xs L 17 32 ls (.long (lN 65521) :: st) h := zq_k2 (by decide +kernel : decode (zco 17) 29 = .ok (.ldc2_w 80, 3)) (by decide +kernel)
theorem q17_32 {x y : Int64} : zev xs L 17 32 ls (.long y :: .long x :: st) h = if y = 0 then none else zev xs L 17 33 ls (.long (x - x / y * y) :: st) h := zq_lrm (by decide +kernel : decode (zco 17) 32 = .ok (.lrem, 1))
theorem q17_33 {x : Int32} : zev xs L 17 33 [v0, v1, .int x, v3, v4] st h = zev xs L 17 34 [v0, v1, .int x, v3, v4] (.int x :: st) h := zq_iln (by decide +kernel : decode (zco 17) 33 = .ok (.iload_n 2, 1)) rfl
theorem q17_34 : zev xs L 17 34 ls st h = zev xs L 17 35 ls (.int (nI 1) :: st) h := zq_ic (by decide +kernel : decode (zco 17) 34 = .ok (.iconst 1, 1)) rfl
theorem q17_35 {x y : Int32} : zev xs L 17 35 ls (.int y :: .int x :: st) h = zev xs L 17 36 ls (.int (x + y) :: st) h := zq_iadd (by decide +kernel : decode (zco 17) 35 = .ok (.iadd, 1))
theorem q17_36 {x : Int32} : zev xs L 17 36 ls (.int x :: st) h = zev xs L 17 37 ls (.long x.toInt64 :: st) h := zq_i2l (by decide +kernel : decode (zco 17) 36 = .ok (.i2l, 1))
theorem q17_37 {x y : Int64} : zev xs L 17 37 ls (.long y :: .long x :: st) h = if y = 0 then none else zev xs L 17 38 ls (.long (x - x / y * y) :: st) h := zq_lrm (by decide +kernel : decode (zco 17) 37 = .ok (.lrem, 1))
theorem q17_38 {x : Int64} : zev xs L 17 38 ls (.long x :: st) h = zev xs L 17 39 ls (.int x.toInt32 :: st) h := zq_l2i (by decide +kernel : decode (zco 17) 38 = .ok (.l2i, 1))
theorem q17_39 {x : Int32} : zev xs L 17 39 ls [.int x] h = some (some (.int x), h) := zq_ri (by decide +kernel : decode (zco 17) 39 = .ok (.ireturn, 1)) (by decide +kernel)
end
/- X1_kindWornBy -/
section
variable {xs : Nat → Int32} {L : Nat} {ls st : List Value} {h : ZH} {v0 v1 : Value} 
theorem q18_0 {x : Nat} : zev xs L 18 0 [.ref x, v1] st h = zev xs L 18 1 [.ref x, v1] (.ref x :: st) h := zq_aln (by decide +kernel : decode (zco 18) 0 = .ok (.aload_n 0, 1)) rfl
theorem q18_1 {a : Nat} : zev xs L 18 1 ls (.ref a :: st) h = (zget h a 1 3).bind (fun v => zev xs L 18 4 ls (v :: st) h) := zq_gf (by decide +kernel : decode (zco 18) 1 = .ok (.getfield 15, 3)) (by decide +kernel)
theorem q18_4 {x : Nat} : zev xs L 18 4 [.ref x, v1] st h = zev xs L 18 5 [.ref x, v1] (.ref x :: st) h := zq_aln (by decide +kernel : decode (zco 18) 4 = .ok (.aload_n 0, 1)) rfl
theorem q18_5 {a : Nat} : zev xs L 18 5 ls (.ref a :: st) h = (zget h a 1 2).bind (fun v => zev xs L 18 8 ls (v :: st) h) := zq_gf (by decide +kernel : decode (zco 18) 5 = .ok (.getfield 9, 3)) (by decide +kernel)
theorem q18_8 {x : Int32} : zev xs L 18 8 [v0, .int x] st h = zev xs L 18 9 [v0, .int x] (.int x :: st) h := zq_iln (by decide +kernel : decode (zco 18) 8 = .ok (.iload_n 1, 1)) rfl
theorem q18_9 {x0 : Nat} {x1 : Int32} {r1 : Value} : zev xs L 18 9 ls [.int x1, .ref x0, r1] h = (zev xs L 98 0 [.ref x0, .int x1] [] h).bind (fun q => zev xs L 18 12 ls (q.1.toList ++ [r1]) q.2) := zq_call (av := [.ref x0, .int x1]) (rest := [r1]) (n := 2) (k := 2) (J := []) (i := .invokestatic 58) (by decide +kernel : decode (zco 18) 9 = .ok (.invokestatic 58, 3)) rfl (by decide +kernel) (by decide +kernel) (Nat.le_of_ble_eq_true rfl) rfl rfl rfl rfl (Or.inr (Or.inl rfl))
theorem q18_12 {x0 : Nat} {x1 : Int32} : zev xs L 18 12 ls [.int x1, .ref x0] h = (zev xs L 98 0 [.ref x0, .int x1] [] h).bind (fun q => zev xs L 18 15 ls (q.1.toList ++ []) q.2) := zq_call (av := [.ref x0, .int x1]) (rest := []) (n := 2) (k := 2) (J := []) (i := .invokestatic 58) (by decide +kernel : decode (zco 18) 12 = .ok (.invokestatic 58, 3)) rfl (by decide +kernel) (by decide +kernel) (Nat.le_of_ble_eq_true rfl) rfl rfl rfl rfl (Or.inr (Or.inl rfl))
theorem q18_15 {x : Int32} : zev xs L 18 15 ls [.int x] h = some (some (.int x), h) := zq_ri (by decide +kernel : decode (zco 18) 15 = .ok (.ireturn, 1)) (by decide +kernel)
end
/- X1_timesHad -/
section
variable {xs : Nat → Int32} {L : Nat} {ls st : List Value} {h : ZH} {v0 v1 v2 : Value} 
theorem q19_0 {x : Nat} : zev xs L 19 0 [.ref x, v1, v2] st h = zev xs L 19 1 [.ref x, v1, v2] (.ref x :: st) h := zq_aln (by decide +kernel : decode (zco 19) 0 = .ok (.aload_n 0, 1)) rfl
theorem q19_1 {a : Nat} : zev xs L 19 1 ls (.ref a :: st) h = (zget h a 1 6).bind (fun v => zev xs L 19 4 ls (v :: st) h) := zq_gf (by decide +kernel : decode (zco 19) 1 = .ok (.getfield 24, 3)) (by decide +kernel)
theorem q19_4 {x : Int32} : zev xs L 19 4 [v0, .int x, v2] st h = zev xs L 19 5 [v0, .int x, v2] (.int x :: st) h := zq_iln (by decide +kernel : decode (zco 19) 4 = .ok (.iload_n 1, 1)) rfl
theorem q19_5 : zev xs L 19 5 ls st h = zev xs L 19 6 ls (.int (nI 5) :: st) h := zq_ic (by decide +kernel : decode (zco 19) 5 = .ok (.iconst 5, 1)) rfl
theorem q19_6 {x y : Int32} : zev xs L 19 6 ls (.int y :: .int x :: st) h = zev xs L 19 7 ls (.int (x * y) :: st) h := zq_imul (by decide +kernel : decode (zco 19) 6 = .ok (.imul, 1))
theorem q19_7 {x : Int32} : zev xs L 19 7 [v0, v1, .int x] st h = zev xs L 19 8 [v0, v1, .int x] (.int x :: st) h := zq_iln (by decide +kernel : decode (zco 19) 7 = .ok (.iload_n 2, 1)) rfl
theorem q19_8 {x y : Int32} : zev xs L 19 8 ls (.int y :: .int x :: st) h = zev xs L 19 9 ls (.int (x + y) :: st) h := zq_iadd (by decide +kernel : decode (zco 19) 8 = .ok (.iadd, 1))
theorem q19_9 {x0 : Nat} {x1 : Int32} : zev xs L 19 9 ls [.int x1, .ref x0] h = (zev xs L 98 0 [.ref x0, .int x1] [] h).bind (fun q => zev xs L 19 12 ls (q.1.toList ++ []) q.2) := zq_call (av := [.ref x0, .int x1]) (rest := []) (n := 2) (k := 2) (J := []) (i := .invokestatic 58) (by decide +kernel : decode (zco 19) 9 = .ok (.invokestatic 58, 3)) rfl (by decide +kernel) (by decide +kernel) (Nat.le_of_ble_eq_true rfl) rfl rfl rfl rfl (Or.inr (Or.inl rfl))
theorem q19_12 {x : Int32} : zev xs L 19 12 ls [.int x] h = some (some (.int x), h) := zq_ri (by decide +kernel : decode (zco 19) 12 = .ok (.ireturn, 1)) (by decide +kernel)
end
/- X1_howManyHeld -/
section
variable {xs : Nat → Int32} {L : Nat} {ls st : List Value} {h : ZH} {v0 : Value} 
theorem q20_0 {x : Nat} : zev xs L 20 0 [.ref x] st h = zev xs L 20 1 [.ref x] (.ref x :: st) h := zq_aln (by decide +kernel : decode (zco 20) 0 = .ok (.aload_n 0, 1)) rfl
theorem q20_1 {a : Nat} : zev xs L 20 1 ls (.ref a :: st) h = (zget h a 1 1).bind (fun v => zev xs L 20 4 ls (v :: st) h) := zq_gf (by decide +kernel : decode (zco 20) 1 = .ok (.getfield 31, 3)) (by decide +kernel)
theorem q20_4 {x0 : Int32} : zev xs L 20 4 ls [.int x0] h = (zev xs L 158 0 [.int x0] [] h).bind (fun q => zev xs L 20 7 ls (q.1.toList ++ []) q.2) := zq_call (av := [.int x0]) (rest := []) (n := 1) (k := 1) (J := []) (i := .invokestatic 82) (by decide +kernel : decode (zco 20) 4 = .ok (.invokestatic 82, 3)) rfl (by decide +kernel) (by decide +kernel) (Nat.le_of_ble_eq_true rfl) rfl rfl rfl rfl (Or.inl rfl)
theorem q20_7 {x : Int32} : zev xs L 20 7 ls [.int x] h = some (some (.int x), h) := zq_ri (by decide +kernel : decode (zco 20) 7 = .ok (.ireturn, 1)) (by decide +kernel)
end
