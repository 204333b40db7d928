/- X5_init -/
section
variable {xs : Nat → Int32} {L : Nat} {ls st : List Value} {h : ZH} {v0 : Value} 
theorem q39_0 {x : Nat} : zev xs L 39 0 [.ref x] st h = zev xs L 39 1 [.ref x] (.ref x :: st) h := zq_aln (by decide +kernel : decode (zco 39) 0 = .ok (.aload_n 0, 1)) rfl
theorem q39_1 {a : Nat} : zev xs L 39 1 ls [.ref a] h = zev xs L 39 4 ls [] h := zq_obj (by decide +kernel : decode (zco 39) 1 = .ok (.invokespecial 3, 3)) (by decide +kernel) (Nat.le_of_ble_eq_true rfl) (by decide +kernel)
theorem q39_4 {x : Nat} : zev xs L 39 4 [.ref x] st h = zev xs L 39 5 [.ref x] (.ref x :: st) h := zq_aln (by decide +kernel : decode (zco 39) 4 = .ok (.aload_n 0, 1)) rfl
theorem q39_5 : zev xs L 39 5 ls st h = zev xs L 39 6 ls (.int (nI 5) :: st) h := zq_ic (by decide +kernel : decode (zco 39) 5 = .ok (.iconst 5, 1)) rfl
-- .newarray .int at 6
theorem q39_6 {k : Nat} (hk : k ≤ 1000) : zev xs L 39 6 ls (.int (nI k) :: st) h = zev xs L 39 8 ls (.ref h.length :: st) (h ++ [(20, List.replicate k (.int 0))]) := zq_na (by decide +kernel : decode (zco 39) 6 = .ok (.newarray .int, 2)) ⟨nI_pos (by omega), by rw [nI_clamp (by omega)]; exact hk, by decide⟩ (nI_clamp (by omega)) rfl
theorem q39_8 {x a : Nat} : zev xs L 39 8 ls (.ref x :: .ref a :: st) h = (zput h a 5 5 (.ref x)).bind (fun h => zev xs L 39 11 ls st h) := zq_pfa (by decide +kernel : decode (zco 39) 8 = .ok (.putfield 9, 3)) (by decide +kernel) (by decide +kernel)
theorem q39_11 {x : Nat} : zev xs L 39 11 [.ref x] st h = zev xs L 39 12 [.ref x] (.ref x :: st) h := zq_aln (by decide +kernel : decode (zco 39) 11 = .ok (.aload_n 0, 1)) rfl
theorem q39_12 : zev xs L 39 12 ls st h = zev xs L 39 13 ls (.int (nI 5) :: st) h := zq_ic (by decide +kernel : decode (zco 39) 12 = .ok (.iconst 5, 1)) rfl
-- .newarray .int at 13
theorem q39_13 {k : Nat} (hk : k ≤ 1000) : zev xs L 39 13 ls (.int (nI k) :: st) h = zev xs L 39 15 ls (.ref h.length :: st) (h ++ [(20, List.replicate k (.int 0))]) := zq_na (by decide +kernel : decode (zco 39) 13 = .ok (.newarray .int, 2)) ⟨nI_pos (by omega), by rw [nI_clamp (by omega)]; exact hk, by decide⟩ (nI_clamp (by omega)) rfl
theorem q39_15 {x a : Nat} : zev xs L 39 15 ls (.ref x :: .ref a :: st) h = (zput h a 5 6 (.ref x)).bind (fun h => zev xs L 39 18 ls st h) := zq_pfa (by decide +kernel : decode (zco 39) 15 = .ok (.putfield 15, 3)) (by decide +kernel) (by decide +kernel)
theorem q39_18 {x : Nat} : zev xs L 39 18 [.ref x] st h = zev xs L 39 19 [.ref x] (.ref x :: st) h := zq_aln (by decide +kernel : decode (zco 39) 18 = .ok (.aload_n 0, 1)) rfl
theorem q39_19 : zev xs L 39 19 ls st h = zev xs L 39 20 ls (.int (nI 5) :: st) h := zq_ic (by decide +kernel : decode (zco 39) 19 = .ok (.iconst 5, 1)) rfl
-- .newarray .int at 20
theorem q39_20 {k : Nat} (hk : k ≤ 1000) : zev xs L 39 20 ls (.int (nI k) :: st) h = zev xs L 39 22 ls (.ref h.length :: st) (h ++ [(20, List.replicate k (.int 0))]) := zq_na (by decide +kernel : decode (zco 39) 20 = .ok (.newarray .int, 2)) ⟨nI_pos (by omega), by rw [nI_clamp (by omega)]; exact hk, by decide⟩ (nI_clamp (by omega)) rfl
theorem q39_22 {x a : Nat} : zev xs L 39 22 ls (.ref x :: .ref a :: st) h = (zput h a 5 7 (.ref x)).bind (fun h => zev xs L 39 25 ls st h) := zq_pfa (by decide +kernel : decode (zco 39) 22 = .ok (.putfield 18, 3)) (by decide +kernel) (by decide +kernel)
theorem q39_25 {x : Nat} : zev xs L 39 25 [.ref x] st h = zev xs L 39 26 [.ref x] (.ref x :: st) h := zq_aln (by decide +kernel : decode (zco 39) 25 = .ok (.aload_n 0, 1)) rfl
theorem q39_26 : zev xs L 39 26 ls st h = zev xs L 39 28 ls (.int (nI 6) :: st) h := zq_bi (by decide +kernel : decode (zco 39) 26 = .ok (.bipush 6, 2)) rfl
-- .newarray .int at 28
theorem q39_28 {k : Nat} (hk : k ≤ 1000) : zev xs L 39 28 ls (.int (nI k) :: st) h = zev xs L 39 30 ls (.ref h.length :: st) (h ++ [(20, List.replicate k (.int 0))]) := zq_na (by decide +kernel : decode (zco 39) 28 = .ok (.newarray .int, 2)) ⟨nI_pos (by omega), by rw [nI_clamp (by omega)]; exact hk, by decide⟩ (nI_clamp (by omega)) rfl
theorem q39_30 {x a : Nat} : zev xs L 39 30 ls (.ref x :: .ref a :: st) h = (zput h a 5 8 (.ref x)).bind (fun h => zev xs L 39 33 ls st h) := zq_pfa (by decide +kernel : decode (zco 39) 30 = .ok (.putfield 21, 3)) (by decide +kernel) (by decide +kernel)
theorem q39_33 {x : Nat} : zev xs L 39 33 [.ref x] st h = zev xs L 39 34 [.ref x] (.ref x :: st) h := zq_aln (by decide +kernel : decode (zco 39) 33 = .ok (.aload_n 0, 1)) rfl
theorem q39_34 : zev xs L 39 34 ls st h = zev xs L 39 36 ls (.int (nI 30) :: st) h := zq_bi (by decide +kernel : decode (zco 39) 34 = .ok (.bipush 30, 2)) rfl
-- .newarray .int at 36
theorem q39_36 {k : Nat} (hk : k ≤ 1000) : zev xs L 39 36 ls (.int (nI k) :: st) h = zev xs L 39 38 ls (.ref h.length :: st) (h ++ [(20, List.replicate k (.int 0))]) := zq_na (by decide +kernel : decode (zco 39) 36 = .ok (.newarray .int, 2)) ⟨nI_pos (by omega), by rw [nI_clamp (by omega)]; exact hk, by decide⟩ (nI_clamp (by omega)) rfl
theorem q39_38 {x a : Nat} : zev xs L 39 38 ls (.ref x :: .ref a :: st) h = (zput h a 5 9 (.ref x)).bind (fun h => zev xs L 39 41 ls st h) := zq_pfa (by decide +kernel : decode (zco 39) 38 = .ok (.putfield 24, 3)) (by decide +kernel) (by decide +kernel)
theorem q39_41 : zev xs L 39 41 ls [] h = some (none, h) := zq_rv (by decide +kernel : decode (zco 39) 41 = .ok (.return_, 1)) (by decide +kernel)
end
/- X5_clear -/
section
variable {xs : Nat → Int32} {L : Nat} {ls st : List Value} {h : ZH} {v0 : Value} 
theorem q40_0 {x : Nat} : zev xs L 40 0 [.ref x] st h = zev xs L 40 1 [.ref x] (.ref x :: st) h := zq_aln (by decide +kernel : decode (zco 40) 0 = .ok (.aload_n 0, 1)) rfl
theorem q40_1 : zev xs L 40 1 ls st h = zev xs L 40 2 ls (.int (nI 0) :: st) h := zq_ic (by decide +kernel : decode (zco 40) 1 = .ok (.iconst 0, 1)) rfl
theorem q40_2 {x : Int32} {a : Nat} : zev xs L 40 2 ls (.int x :: .ref a :: st) h = (zput h a 5 0 (.int x)).bind (fun h => zev xs L 40 5 ls st h) := zq_pfi (by decide +kernel : decode (zco 40) 2 = .ok (.putfield 27, 3)) (by decide +kernel) (by decide +kernel)
theorem q40_5 {x : Nat} : zev xs L 40 5 [.ref x] st h = zev xs L 40 6 [.ref x] (.ref x :: st) h := zq_aln (by decide +kernel : decode (zco 40) 5 = .ok (.aload_n 0, 1)) rfl
theorem q40_6 : zev xs L 40 6 ls st h = zev xs L 40 7 ls (.int (nI 0) :: st) h := zq_ic (by decide +kernel : decode (zco 40) 6 = .ok (.iconst 0, 1)) rfl
theorem q40_7 {x : Int32} {a : Nat} : zev xs L 40 7 ls (.int x :: .ref a :: st) h = (zput h a 5 1 (.int x)).bind (fun h => zev xs L 40 10 ls st h) := zq_pfi (by decide +kernel : decode (zco 40) 7 = .ok (.putfield 31, 3)) (by decide +kernel) (by decide +kernel)
theorem q40_10 {x : Nat} : zev xs L 40 10 [.ref x] st h = zev xs L 40 11 [.ref x] (.ref x :: st) h := zq_aln (by decide +kernel : decode (zco 40) 10 = .ok (.aload_n 0, 1)) rfl
theorem q40_11 : zev xs L 40 11 ls st h = zev xs L 40 12 ls (.int (nI 0) :: st) h := zq_ic (by decide +kernel : decode (zco 40) 11 = .ok (.iconst 0, 1)) rfl
theorem q40_12 {x : Int32} {a : Nat} : zev xs L 40 12 ls (.int x :: .ref a :: st) h = (zput h a 5 2 (.int x)).bind (fun h => zev xs L 40 15 ls st h) := zq_pfi (by decide +kernel : decode (zco 40) 12 = .ok (.putfield 34, 3)) (by decide +kernel) (by decide +kernel)
theorem q40_15 {x : Nat} : zev xs L 40 15 [.ref x] st h = zev xs L 40 16 [.ref x] (.ref x :: st) h := zq_aln (by decide +kernel : decode (zco 40) 15 = .ok (.aload_n 0, 1)) rfl
theorem q40_16 : zev xs L 40 16 ls st h = zev xs L 40 17 ls (.int (nI 0) :: st) h := zq_ic (by decide +kernel : decode (zco 40) 16 = .ok (.iconst 0, 1)) rfl
theorem q40_17 {x : Int32} {a : Nat} : zev xs L 40 17 ls (.int x :: .ref a :: st) h = (zput h a 5 3 (.int x)).bind (fun h => zev xs L 40 20 ls st h) := zq_pfi (by decide +kernel : decode (zco 40) 17 = .ok (.putfield 37, 3)) (by decide +kernel) (by decide +kernel)
theorem q40_20 {x : Nat} : zev xs L 40 20 [.ref x] st h = zev xs L 40 21 [.ref x] (.ref x :: st) h := zq_aln (by decide +kernel : decode (zco 40) 20 = .ok (.aload_n 0, 1)) rfl
theorem q40_21 : zev xs L 40 21 ls st h = zev xs L 40 22 ls (.int (nI 0) :: st) h := zq_ic (by decide +kernel : decode (zco 40) 21 = .ok (.iconst 0, 1)) rfl
theorem q40_22 {x : Int32} {a : Nat} : zev xs L 40 22 ls (.int x :: .ref a :: st) h = (zput h a 5 4 (.int x)).bind (fun h => zev xs L 40 25 ls st h) := zq_pfi (by decide +kernel : decode (zco 40) 22 = .ok (.putfield 40, 3)) (by decide +kernel) (by decide +kernel)
theorem q40_25 : zev xs L 40 25 ls [] h = some (none, h) := zq_rv (by decide +kernel : decode (zco 40) 25 = .ok (.return_, 1)) (by decide +kernel)
end
/- X5_addKind -/
section
variable {xs : Nat → Int32} {L : Nat} {ls st : List Value} {h : ZH} {v0 v1 v2 v3 : Value} 
theorem q41_0 {x : Int32} : zev xs L 41 0 [v0, .int x, v2, v3] st h = zev xs L 41 1 [v0, .int x, v2, v3] (.int x :: st) h := zq_iln (by decide +kernel : decode (zco 41) 0 = .ok (.iload_n 1, 1)) rfl
theorem q41_1 {x : Int32} : zev xs L 41 1 ls (.int x :: st) h = if x < 0 then zev xs L 41 27 ls st h else zev xs L 41 4 ls st h := (zq_if (by decide +kernel : decode (zco 41) 1 = .ok (.ifCond .lt 26, 3)) (by decide +kernel)).trans (zdec rfl)
theorem q41_4 {x : Int32} : zev xs L 41 4 [v0, v1, .int x, v3] st h = zev xs L 41 5 [v0, v1, .int x, v3] (.int x :: st) h := zq_iln (by decide +kernel : decode (zco 41) 4 = .ok (.iload_n 2, 1)) rfl
theorem q41_5 {x : Int32} : zev xs L 41 5 ls (.int x :: st) h = if x < 0 then zev xs L 41 27 ls st h else zev xs L 41 8 ls st h := (zq_if (by decide +kernel : decode (zco 41) 5 = .ok (.ifCond .lt 22, 3)) (by decide +kernel)).trans (zdec rfl)
theorem q41_8 {x : Int32} : zev xs L 41 8 [v0, v1, v2, .int x] st h = zev xs L 41 9 [v0, v1, v2, .int x] (.int x :: st) h := zq_iln (by decide +kernel : decode (zco 41) 8 = .ok (.iload_n 3, 1)) rfl
theorem q41_9 {x : Int32} : zev xs L 41 9 ls (.int x :: st) h = if x < 0 then zev xs L 41 27 ls st h else zev xs L 41 12 ls st h := (zq_if (by decide +kernel : decode (zco 41) 9 = .ok (.ifCond .lt 18, 3)) (by decide +kernel)).trans (zdec rfl)
theorem q41_12 {x : Nat} : zev xs L 41 12 [.ref x, v1, v2, v3] st h = zev xs L 41 13 [.ref x, v1, v2, v3] (.ref x :: st) h := zq_aln (by decide +kernel : decode (zco 41) 12 = .ok (.aload_n 0, 1)) rfl
theorem q41_13 {a : Nat} : zev xs L 41 13 ls (.ref a :: st) h = (zget h a 5 0).bind (fun v => zev xs L 41 16 ls (v :: st) h) := zq_gf (by decide +kernel : decode (zco 41) 13 = .ok (.getfield 27, 3)) (by decide +kernel)
theorem q41_16 : zev xs L 41 16 ls st h = zev xs L 41 17 ls (.int (nI 5) :: st) h := zq_ic (by decide +kernel : decode (zco 41) 16 = .ok (.iconst 5, 1)) rfl
theorem q41_17 {x y : Int32} : zev xs L 41 17 ls (.int y :: .int x :: st) h = if x < y then zev xs L 41 20 ls st h else zev xs L 41 27 ls st h := (zq_ic2 (by decide +kernel : decode (zco 41) 17 = .ok (.if_icmp .ge 10, 3)) (by decide +kernel)).trans (zdge)
theorem q41_20 {x : Nat} : zev xs L 41 20 [.ref x, v1, v2, v3] st h = zev xs L 41 21 [.ref x, v1, v2, v3] (.ref x :: st) h := zq_aln (by decide +kernel : decode (zco 41) 20 = .ok (.aload_n 0, 1)) rfl
theorem q41_21 {a : Nat} : zev xs L 41 21 ls (.ref a :: st) h = (zget h a 5 1).bind (fun v => zev xs L 41 24 ls (v :: st) h) := zq_gf (by decide +kernel : decode (zco 41) 21 = .ok (.getfield 31, 3)) (by decide +kernel)
theorem q41_24 {x : Int32} : zev xs L 41 24 ls (.int x :: st) h = if 0 < x then zev xs L 41 27 ls st h else zev xs L 41 29 ls st h := (zq_if (by decide +kernel : decode (zco 41) 24 = .ok (.ifCond .le 5, 3)) (by decide +kernel)).trans (zdge)
theorem q41_27 : zev xs L 41 27 ls st h = zev xs L 41 28 ls (.int (nI 0) :: st) h := zq_ic (by decide +kernel : decode (zco 41) 27 = .ok (.iconst 0, 1)) rfl
theorem q41_28 {x : Int32} : zev xs L 41 28 ls [.int x] h = if zbk x = true then some (some (.int x), h) else none := zq_rzi (by decide +kernel : decode (zco 41) 28 = .ok (.ireturn, 1)) (by decide +kernel)
theorem q41_29 {x : Nat} : zev xs L 41 29 [.ref x, v1, v2, v3] st h = zev xs L 41 30 [.ref x, v1, v2, v3] (.ref x :: st) h := zq_aln (by decide +kernel : decode (zco 41) 29 = .ok (.aload_n 0, 1)) rfl
theorem q41_30 {a : Nat} : zev xs L 41 30 ls (.ref a :: st) h = (zget h a 5 5).bind (fun v => zev xs L 41 33 ls (v :: st) h) := zq_gf (by decide +kernel : decode (zco 41) 30 = .ok (.getfield 9, 3)) (by decide +kernel)
theorem q41_33 {x : Nat} : zev xs L 41 33 [.ref x, v1, v2, v3] st h = zev xs L 41 34 [.ref x, v1, v2, v3] (.ref x :: st) h := zq_aln (by decide +kernel : decode (zco 41) 33 = .ok (.aload_n 0, 1)) rfl
theorem q41_34 {a : Nat} : zev xs L 41 34 ls (.ref a :: st) h = (zget h a 5 0).bind (fun v => zev xs L 41 37 ls (v :: st) h) := zq_gf (by decide +kernel : decode (zco 41) 34 = .ok (.getfield 27, 3)) (by decide +kernel)
theorem q41_37 {x : Int32} : zev xs L 41 37 [v0, .int x, v2, v3] st h = zev xs L 41 38 [v0, .int x, v2, v3] (.int x :: st) h := zq_iln (by decide +kernel : decode (zco 41) 37 = .ok (.iload_n 1, 1)) rfl
theorem q41_38 {x y : Int32} {a : Nat} : zev xs L 41 38 ls (.int y :: .int x :: .ref a :: st) h = (zast h 20 a x (.int y)).bind (fun h => zev xs L 41 39 ls st h) := zq_ias (by decide +kernel : decode (zco 41) 38 = .ok (.iastore, 1))
theorem q41_39 {x : Nat} : zev xs L 41 39 [.ref x, v1, v2, v3] st h = zev xs L 41 40 [.ref x, v1, v2, v3] (.ref x :: st) h := zq_aln (by decide +kernel : decode (zco 41) 39 = .ok (.aload_n 0, 1)) rfl
theorem q41_40 {a : Nat} : zev xs L 41 40 ls (.ref a :: st) h = (zget h a 5 6).bind (fun v => zev xs L 41 43 ls (v :: st) h) := zq_gf (by decide +kernel : decode (zco 41) 40 = .ok (.getfield 15, 3)) (by decide +kernel)
theorem q41_43 {x : Nat} : zev xs L 41 43 [.ref x, v1, v2, v3] st h = zev xs L 41 44 [.ref x, v1, v2, v3] (.ref x :: st) h := zq_aln (by decide +kernel : decode (zco 41) 43 = .ok (.aload_n 0, 1)) rfl
theorem q41_44 {a : Nat} : zev xs L 41 44 ls (.ref a :: st) h = (zget h a 5 0).bind (fun v => zev xs L 41 47 ls (v :: st) h) := zq_gf (by decide +kernel : decode (zco 41) 44 = .ok (.getfield 27, 3)) (by decide +kernel)
theorem q41_47 {x : Int32} : zev xs L 41 47 [v0, v1, .int x, v3] st h = zev xs L 41 48 [v0, v1, .int x, v3] (.int x :: st) h := zq_iln (by decide +kernel : decode (zco 41) 47 = .ok (.iload_n 2, 1)) rfl
theorem q41_48 {x y : Int32} {a : Nat} : zev xs L 41 48 ls (.int y :: .int x :: .ref a :: st) h = (zast h 20 a x (.int y)).bind (fun h => zev xs L 41 49 ls st h) := zq_ias (by decide +kernel : decode (zco 41) 48 = .ok (.iastore, 1))
theorem q41_49 {x : Nat} : zev xs L 41 49 [.ref x, v1, v2, v3] st h = zev xs L 41 50 [.ref x, v1, v2, v3] (.ref x :: st) h := zq_aln (by decide +kernel : decode (zco 41) 49 = .ok (.aload_n 0, 1)) rfl
theorem q41_50 {a : Nat} : zev xs L 41 50 ls (.ref a :: st) h = (zget h a 5 7).bind (fun v => zev xs L 41 53 ls (v :: st) h) := zq_gf (by decide +kernel : decode (zco 41) 50 = .ok (.getfield 18, 3)) (by decide +kernel)
theorem q41_53 {x : Nat} : zev xs L 41 53 [.ref x, v1, v2, v3] st h = zev xs L 41 54 [.ref x, v1, v2, v3] (.ref x :: st) h := zq_aln (by decide +kernel : decode (zco 41) 53 = .ok (.aload_n 0, 1)) rfl
theorem q41_54 {a : Nat} : zev xs L 41 54 ls (.ref a :: st) h = (zget h a 5 0).bind (fun v => zev xs L 41 57 ls (v :: st) h) := zq_gf (by decide +kernel : decode (zco 41) 54 = .ok (.getfield 27, 3)) (by decide +kernel)
theorem q41_57 {x : Int32} : zev xs L 41 57 [v0, v1, v2, .int x] st h = zev xs L 41 58 [v0, v1, v2, .int x] (.int x :: st) h := zq_iln (by decide +kernel : decode (zco 41) 57 = .ok (.iload_n 3, 1)) rfl
theorem q41_58 {x y : Int32} {a : Nat} : zev xs L 41 58 ls (.int y :: .int x :: .ref a :: st) h = (zast h 20 a x (.int y)).bind (fun h => zev xs L 41 59 ls st h) := zq_ias (by decide +kernel : decode (zco 41) 58 = .ok (.iastore, 1))
theorem q41_59 {x : Nat} : zev xs L 41 59 [.ref x, v1, v2, v3] st h = zev xs L 41 60 [.ref x, v1, v2, v3] (.ref x :: st) h := zq_aln (by decide +kernel : decode (zco 41) 59 = .ok (.aload_n 0, 1)) rfl
theorem q41_60 {x : Nat} : zev xs L 41 60 ls (.ref x :: st) h = zev xs L 41 61 ls (.ref x :: .ref x :: st) h := zq_dupa (by decide +kernel : decode (zco 41) 60 = .ok (.dup, 1))
theorem q41_61 {a : Nat} : zev xs L 41 61 ls (.ref a :: st) h = (zget h a 5 2).bind (fun v => zev xs L 41 64 ls (v :: st) h) := zq_gf (by decide +kernel : decode (zco 41) 61 = .ok (.getfield 34, 3)) (by decide +kernel)
theorem q41_64 {x : Int32} : zev xs L 41 64 [v0, v1, v2, .int x] st h = zev xs L 41 65 [v0, v1, v2, .int x] (.int x :: st) h := zq_iln (by decide +kernel : decode (zco 41) 64 = .ok (.iload_n 3, 1)) rfl
theorem q41_65 {x y : Int32} : zev xs L 41 65 ls (.int y :: .int x :: st) h = zev xs L 41 66 ls (.int (x + y) :: st) h := zq_iadd (by decide +kernel : decode (zco 41) 65 = .ok (.iadd, 1))
theorem q41_66 {x : Int32} {a : Nat} : zev xs L 41 66 ls (.int x :: .ref a :: st) h = (zput h a 5 2 (.int x)).bind (fun h => zev xs L 41 69 ls st h) := zq_pfi (by decide +kernel : decode (zco 41) 66 = .ok (.putfield 34, 3)) (by decide +kernel) (by decide +kernel)
theorem q41_69 {x : Nat} : zev xs L 41 69 [.ref x, v1, v2, v3] st h = zev xs L 41 70 [.ref x, v1, v2, v3] (.ref x :: st) h := zq_aln (by decide +kernel : decode (zco 41) 69 = .ok (.aload_n 0, 1)) rfl
theorem q41_70 {x : Nat} : zev xs L 41 70 ls (.ref x :: st) h = zev xs L 41 71 ls (.ref x :: .ref x :: st) h := zq_dupa (by decide +kernel : decode (zco 41) 70 = .ok (.dup, 1))
theorem q41_71 {a : Nat} : zev xs L 41 71 ls (.ref a :: st) h = (zget h a 5 0).bind (fun v => zev xs L 41 74 ls (v :: st) h) := zq_gf (by decide +kernel : decode (zco 41) 71 = .ok (.getfield 27, 3)) (by decide +kernel)
theorem q41_74 : zev xs L 41 74 ls st h = zev xs L 41 75 ls (.int (nI 1) :: st) h := zq_ic (by decide +kernel : decode (zco 41) 74 = .ok (.iconst 1, 1)) rfl
theorem q41_75 {x y : Int32} : zev xs L 41 75 ls (.int y :: .int x :: st) h = zev xs L 41 76 ls (.int (x + y) :: st) h := zq_iadd (by decide +kernel : decode (zco 41) 75 = .ok (.iadd, 1))
theorem q41_76 {x : Int32} {a : Nat} : zev xs L 41 76 ls (.int x :: .ref a :: st) h = (zput h a 5 0 (.int x)).bind (fun h => zev xs L 41 79 ls st h) := zq_pfi (by decide +kernel : decode (zco 41) 76 = .ok (.putfield 27, 3)) (by decide +kernel) (by decide +kernel)
theorem q41_79 : zev xs L 41 79 ls st h = zev xs L 41 80 ls (.int (nI 1) :: st) h := zq_ic (by decide +kernel : decode (zco 41) 79 = .ok (.iconst 1, 1)) rfl
theorem q41_80 {x : Int32} : zev xs L 41 80 ls [.int x] h = if zbk x = true then some (some (.int x), h) else none := zq_rzi (by decide +kernel : decode (zco 41) 80 = .ok (.ireturn, 1)) (by decide +kernel)
end
/- X5_addPerson -/
section
variable {xs : Nat → Int32} {L : Nat} {ls st : List Value} {h : ZH} {v0 v1 v2 : Value} 
theorem q42_0 {x : Int32} : zev xs L 42 0 [v0, .int x, v2] st h = zev xs L 42 1 [v0, .int x, v2] (.int x :: st) h := zq_iln (by decide +kernel : decode (zco 42) 0 = .ok (.iload_n 1, 1)) rfl
theorem q42_1 {x : Int32} : zev xs L 42 1 ls (.int x :: st) h = if x < 0 then zev xs L 42 13 ls st h else zev xs L 42 4 ls st h := (zq_if (by decide +kernel : decode (zco 42) 1 = .ok (.ifCond .lt 12, 3)) (by decide +kernel)).trans (zdec rfl)
theorem q42_4 {x : Nat} : zev xs L 42 4 [.ref x, v1, v2] st h = zev xs L 42 5 [.ref x, v1, v2] (.ref x :: st) h := zq_aln (by decide +kernel : decode (zco 42) 4 = .ok (.aload_n 0, 1)) rfl
theorem q42_5 {a : Nat} : zev xs L 42 5 ls (.ref a :: st) h = (zget h a 5 1).bind (fun v => zev xs L 42 8 ls (v :: st) h) := zq_gf (by decide +kernel : decode (zco 42) 5 = .ok (.getfield 31, 3)) (by decide +kernel)
theorem q42_8 : zev xs L 42 8 ls st h = zev xs L 42 10 ls (.int (nI 6) :: st) h := zq_bi (by decide +kernel : decode (zco 42) 8 = .ok (.bipush 6, 2)) rfl
theorem q42_10 {x y : Int32} : zev xs L 42 10 ls (.int y :: .int x :: st) h = if x < y then zev xs L 42 15 ls st h else zev xs L 42 13 ls st h := (zq_ic2 (by decide +kernel : decode (zco 42) 10 = .ok (.if_icmp .lt 5, 3)) (by decide +kernel)).trans (zdec rfl)
theorem q42_13 : zev xs L 42 13 ls st h = zev xs L 42 14 ls (.int (nI 0) :: st) h := zq_ic (by decide +kernel : decode (zco 42) 13 = .ok (.iconst 0, 1)) rfl
theorem q42_14 {x : Int32} : zev xs L 42 14 ls [.int x] h = if zbk x = true then some (some (.int x), h) else none := zq_rzi (by decide +kernel : decode (zco 42) 14 = .ok (.ireturn, 1)) (by decide +kernel)
theorem q42_15 {x : Nat} : zev xs L 42 15 [.ref x, v1, v2] st h = zev xs L 42 16 [.ref x, v1, v2] (.ref x :: st) h := zq_aln (by decide +kernel : decode (zco 42) 15 = .ok (.aload_n 0, 1)) rfl
theorem q42_16 {a : Nat} : zev xs L 42 16 ls (.ref a :: st) h = (zget h a 5 8).bind (fun v => zev xs L 42 19 ls (v :: st) h) := zq_gf (by decide +kernel : decode (zco 42) 16 = .ok (.getfield 21, 3)) (by decide +kernel)
theorem q42_19 {x : Nat} : zev xs L 42 19 [.ref x, v1, v2] st h = zev xs L 42 20 [.ref x, v1, v2] (.ref x :: st) h := zq_aln (by decide +kernel : decode (zco 42) 19 = .ok (.aload_n 0, 1)) rfl
theorem q42_20 {a : Nat} : zev xs L 42 20 ls (.ref a :: st) h = (zget h a 5 1).bind (fun v => zev xs L 42 23 ls (v :: st) h) := zq_gf (by decide +kernel : decode (zco 42) 20 = .ok (.getfield 31, 3)) (by decide +kernel)
theorem q42_23 {x : Int32} : zev xs L 42 23 [v0, .int x, v2] st h = zev xs L 42 24 [v0, .int x, v2] (.int x :: st) h := zq_iln (by decide +kernel : decode (zco 42) 23 = .ok (.iload_n 1, 1)) rfl
theorem q42_24 {x y : Int32} {a : Nat} : zev xs L 42 24 ls (.int y :: .int x :: .ref a :: st) h = (zast h 20 a x (.int y)).bind (fun h => zev xs L 42 25 ls st h) := zq_ias (by decide +kernel : decode (zco 42) 24 = .ok (.iastore, 1))
theorem q42_25 {x : Nat} : zev xs L 42 25 [.ref x, v1, v2] st h = zev xs L 42 26 [.ref x, v1, v2] (.ref x :: st) h := zq_aln (by decide +kernel : decode (zco 42) 25 = .ok (.aload_n 0, 1)) rfl
theorem q42_26 {x : Nat} : zev xs L 42 26 ls (.ref x :: st) h = zev xs L 42 27 ls (.ref x :: .ref x :: st) h := zq_dupa (by decide +kernel : decode (zco 42) 26 = .ok (.dup, 1))
theorem q42_27 {a : Nat} : zev xs L 42 27 ls (.ref a :: st) h = (zget h a 5 1).bind (fun v => zev xs L 42 30 ls (v :: st) h) := zq_gf (by decide +kernel : decode (zco 42) 27 = .ok (.getfield 31, 3)) (by decide +kernel)
theorem q42_30 : zev xs L 42 30 ls st h = zev xs L 42 31 ls (.int (nI 1) :: st) h := zq_ic (by decide +kernel : decode (zco 42) 30 = .ok (.iconst 1, 1)) rfl
theorem q42_31 {x y : Int32} : zev xs L 42 31 ls (.int y :: .int x :: st) h = zev xs L 42 32 ls (.int (x + y) :: st) h := zq_iadd (by decide +kernel : decode (zco 42) 31 = .ok (.iadd, 1))
theorem q42_32 {x : Int32} {a : Nat} : zev xs L 42 32 ls (.int x :: .ref a :: st) h = (zput h a 5 1 (.int x)).bind (fun h => zev xs L 42 35 ls st h) := zq_pfi (by decide +kernel : decode (zco 42) 32 = .ok (.putfield 31, 3)) (by decide +kernel) (by decide +kernel)
theorem q42_35 : zev xs L 42 35 ls st h = zev xs L 42 36 ls (.int (nI 0) :: st) h := zq_ic (by decide +kernel : decode (zco 42) 35 = .ok (.iconst 0, 1)) rfl
theorem q42_36 {x : Int32} : zev xs L 42 36 [v0, v1, v2] (.int x :: st) h = zev xs L 42 37 [v0, v1, .int x] st h := zq_isn (by decide +kernel : decode (zco 42) 36 = .ok (.istore_n 2, 1)) (by decide +kernel) rfl
theorem q42_37 {x : Int32} : zev xs L 42 37 [v0, v1, .int x] st h = zev xs L 42 38 [v0, v1, .int x] (.int x :: st) h := zq_iln (by decide +kernel : decode (zco 42) 37 = .ok (.iload_n 2, 1)) rfl
theorem q42_38 : zev xs L 42 38 ls st h = zev xs L 42 39 ls (.int (nI 5) :: st) h := zq_ic (by decide +kernel : decode (zco 42) 38 = .ok (.iconst 5, 1)) rfl
theorem q42_39 {x y : Int32} : zev xs L 42 39 ls (.int y :: .int x :: st) h = if x < y then zev xs L 42 42 ls st h else zev xs L 42 54 ls st h := (zq_ic2 (by decide +kernel : decode (zco 42) 39 = .ok (.if_icmp .ge 15, 3)) (by decide +kernel)).trans (zdge)
theorem q42_42 {x : Nat} : zev xs L 42 42 [.ref x, v1, v2] st h = zev xs L 42 43 [.ref x, v1, v2] (.ref x :: st) h := zq_aln (by decide +kernel : decode (zco 42) 42 = .ok (.aload_n 0, 1)) rfl
theorem q42_43 {x : Int32} : zev xs L 42 43 [v0, v1, .int x] st h = zev xs L 42 44 [v0, v1, .int x] (.int x :: st) h := zq_iln (by decide +kernel : decode (zco 42) 43 = .ok (.iload_n 2, 1)) rfl
theorem q42_44 : zev xs L 42 44 ls st h = zev xs L 42 45 ls (.int (nI 0) :: st) h := zq_ic (by decide +kernel : decode (zco 42) 44 = .ok (.iconst 0, 1)) rfl
theorem q42_45 {a : Nat} {x0 : Int32} {x1 : Int32} (ht : ztag h a = some 5) : zev xs L 42 45 ls [.int x1, .int x0, .ref a] h = (zev xs L 43 0 [.ref a, .int x0, .int x1, .null] [] h).bind (fun q => zev xs L 42 48 ls (q.1.toList ++ []) q.2) := zq_call (av := [.ref a, .int x0, .int x1]) (rest := []) (n := 3) (k := 4) (J := []) (i := .invokevirtual 43) (by decide +kernel : decode (zco 42) 45 = .ok (.invokevirtual 43, 3)) rfl (by decide +kernel) (by decide +kernel) (Nat.le_of_ble_eq_true rfl) rfl rfl rfl rfl (Or.inr (Or.inr ⟨_, _, rfl, Or.inr (Or.inr ⟨rfl, ht⟩)⟩))
theorem q42_48 {x : Int32} : zev xs L 42 48 [v0, v1, .int x] st h = zev xs L 42 51 [v0, v1, .int (x + nI 1)] st h := zq_inc (by decide +kernel : decode (zco 42) 48 = .ok (.iinc 2 1, 3)) rfl (by decide +kernel) (zn_1 x) rfl
theorem q42_51 : zev xs L 42 51 ls st h = zev xs L 42 37 ls st h := zq_go (by decide +kernel : decode (zco 42) 51 = .ok (.goto (-14), 3)) (by decide +kernel)
theorem q42_54 : zev xs L 42 54 ls st h = zev xs L 42 55 ls (.int (nI 1) :: st) h := zq_ic (by decide +kernel : decode (zco 42) 54 = .ok (.iconst 1, 1)) rfl
theorem q42_55 {x : Int32} : zev xs L 42 55 ls [.int x] h = if zbk x = true then some (some (.int x), h) else none := zq_rzi (by decide +kernel : decode (zco 42) 55 = .ok (.ireturn, 1)) (by decide +kernel)
end
/- X5_setWorth -/
section
variable {xs : Nat → Int32} {L : Nat} {ls st : List Value} {h : ZH} {v0 v1 v2 v3 : Value} 
theorem q43_0 {x : Nat} : zev xs L 43 0 [.ref x, v1, v2, v3] st h = zev xs L 43 1 [.ref x, v1, v2, v3] (.ref x :: st) h := zq_aln (by decide +kernel : decode (zco 43) 0 = .ok (.aload_n 0, 1)) rfl
theorem q43_1 {a : Nat} : zev xs L 43 1 ls (.ref a :: st) h = (zget h a 5 1).bind (fun v => zev xs L 43 4 ls (v :: st) h) := zq_gf (by decide +kernel : decode (zco 43) 1 = .ok (.getfield 31, 3)) (by decide +kernel)
theorem q43_4 : zev xs L 43 4 ls st h = zev xs L 43 5 ls (.int (nI 1) :: st) h := zq_ic (by decide +kernel : decode (zco 43) 4 = .ok (.iconst 1, 1)) rfl
theorem q43_5 {x y : Int32} : zev xs L 43 5 ls (.int y :: .int x :: st) h = zev xs L 43 6 ls (.int (x - y) :: st) h := zq_isub (by decide +kernel : decode (zco 43) 5 = .ok (.isub, 1))
theorem q43_6 : zev xs L 43 6 ls st h = zev xs L 43 7 ls (.int (nI 5) :: st) h := zq_ic (by decide +kernel : decode (zco 43) 6 = .ok (.iconst 5, 1)) rfl
theorem q43_7 {x y : Int32} : zev xs L 43 7 ls (.int y :: .int x :: st) h = zev xs L 43 8 ls (.int (x * y) :: st) h := zq_imul (by decide +kernel : decode (zco 43) 7 = .ok (.imul, 1))
theorem q43_8 {x : Int32} : zev xs L 43 8 [v0, .int x, v2, v3] st h = zev xs L 43 9 [v0, .int x, v2, v3] (.int x :: st) h := zq_iln (by decide +kernel : decode (zco 43) 8 = .ok (.iload_n 1, 1)) rfl
theorem q43_9 {x y : Int32} : zev xs L 43 9 ls (.int y :: .int x :: st) h = zev xs L 43 10 ls (.int (x + y) :: st) h := zq_iadd (by decide +kernel : decode (zco 43) 9 = .ok (.iadd, 1))
theorem q43_10 {x : Int32} : zev xs L 43 10 [v0, v1, v2, v3] (.int x :: st) h = zev xs L 43 11 [v0, v1, v2, .int x] st h := zq_isn (by decide +kernel : decode (zco 43) 10 = .ok (.istore_n 3, 1)) (by decide +kernel) rfl
theorem q43_11 {x : Int32} : zev xs L 43 11 [v0, v1, v2, .int x] st h = zev xs L 43 12 [v0, v1, v2, .int x] (.int x :: st) h := zq_iln (by decide +kernel : decode (zco 43) 11 = .ok (.iload_n 3, 1)) rfl
theorem q43_12 : zev xs L 43 12 ls st h = zev xs L 43 13 ls (.int (nI 0) :: st) h := zq_ic (by decide +kernel : decode (zco 43) 12 = .ok (.iconst 0, 1)) rfl
theorem q43_13 {x : Nat} : zev xs L 43 13 [.ref x, v1, v2, v3] st h = zev xs L 43 14 [.ref x, v1, v2, v3] (.ref x :: st) h := zq_aln (by decide +kernel : decode (zco 43) 13 = .ok (.aload_n 0, 1)) rfl
theorem q43_14 {a : Nat} : zev xs L 43 14 ls (.ref a :: st) h = (zget h a 5 9).bind (fun v => zev xs L 43 17 ls (v :: st) h) := zq_gf (by decide +kernel : decode (zco 43) 14 = .ok (.getfield 24, 3)) (by decide +kernel)
theorem q43_17 {a : Nat} : zev xs L 43 17 ls (.ref a :: st) h = (zaln h a).bind (fun n => zev xs L 43 18 ls (.int (nI n) :: st) h) := zq_len (by decide +kernel : decode (zco 43) 17 = .ok (.arraylength, 1))
theorem q43_18 : zev xs L 43 18 ls st h = zev xs L 43 19 ls (.int (nI 1) :: st) h := zq_ic (by decide +kernel : decode (zco 43) 18 = .ok (.iconst 1, 1)) rfl
theorem q43_19 {x y : Int32} : zev xs L 43 19 ls (.int y :: .int x :: st) h = zev xs L 43 20 ls (.int (x - y) :: st) h := zq_isub (by decide +kernel : decode (zco 43) 19 = .ok (.isub, 1))
theorem q43_20 {x0 : Int32} {x1 : Int32} {x2 : Int32} : zev xs L 43 20 ls [.int x2, .int x1, .int x0] h = (zev xs L 96 0 [.int x0, .int x1, .int x2] [] h).bind (fun q => zev xs L 43 23 ls (q.1.toList ++ []) q.2) := zq_call (av := [.int x0, .int x1, .int x2]) (rest := []) (n := 3) (k := 3) (J := []) (i := .invokestatic 47) (by decide +kernel : decode (zco 43) 20 = .ok (.invokestatic 47, 3)) rfl (by decide +kernel) (by decide +kernel) (Nat.le_of_ble_eq_true rfl) rfl rfl rfl rfl (Or.inr (Or.inl rfl))
theorem q43_23 {x : Int32} : zev xs L 43 23 ls (.int x :: st) h = if x = 0 then zev xs L 43 33 ls st h else zev xs L 43 26 ls st h := (zq_if (by decide +kernel : decode (zco 43) 23 = .ok (.ifCond .eq 10, 3)) (by decide +kernel)).trans (zdec rfl)
theorem q43_26 {x : Nat} : zev xs L 43 26 [.ref x, v1, v2, v3] st h = zev xs L 43 27 [.ref x, v1, v2, v3] (.ref x :: st) h := zq_aln (by decide +kernel : decode (zco 43) 26 = .ok (.aload_n 0, 1)) rfl
theorem q43_27 {a : Nat} : zev xs L 43 27 ls (.ref a :: st) h = (zget h a 5 9).bind (fun v => zev xs L 43 30 ls (v :: st) h) := zq_gf (by decide +kernel : decode (zco 43) 27 = .ok (.getfield 24, 3)) (by decide +kernel)
theorem q43_30 {x : Int32} : zev xs L 43 30 [v0, v1, v2, .int x] st h = zev xs L 43 31 [v0, v1, v2, .int x] (.int x :: st) h := zq_iln (by decide +kernel : decode (zco 43) 30 = .ok (.iload_n 3, 1)) rfl
theorem q43_31 {x : Int32} : zev xs L 43 31 [v0, v1, .int x, v3] st h = zev xs L 43 32 [v0, v1, .int x, v3] (.int x :: st) h := zq_iln (by decide +kernel : decode (zco 43) 31 = .ok (.iload_n 2, 1)) rfl
theorem q43_32 {x y : Int32} {a : Nat} : zev xs L 43 32 ls (.int y :: .int x :: .ref a :: st) h = (zast h 20 a x (.int y)).bind (fun h => zev xs L 43 33 ls st h) := zq_ias (by decide +kernel : decode (zco 43) 32 = .ok (.iastore, 1))
theorem q43_33 : zev xs L 43 33 ls [] h = some (none, h) := zq_rv (by decide +kernel : decode (zco 43) 33 = .ok (.return_, 1)) (by decide +kernel)
end
/- X5_lock -/
section
variable {xs : Nat → Int32} {L : Nat} {ls st : List Value} {h : ZH} {v0 v1 : Value} 
theorem q44_0 {x : Int32} : zev xs L 44 0 [v0, .int x] st h = zev xs L 44 1 [v0, .int x] (.int x :: st) h := zq_iln (by decide +kernel : decode (zco 44) 0 = .ok (.iload_n 1, 1)) rfl
theorem q44_1 {x : Int32} : zev xs L 44 1 ls (.int x :: st) h = if x < 0 then zev xs L 44 12 ls st h else zev xs L 44 4 ls st h := (zq_if (by decide +kernel : decode (zco 44) 1 = .ok (.ifCond .lt 11, 3)) (by decide +kernel)).trans (zdec rfl)
theorem q44_4 {x : Int32} : zev xs L 44 4 [v0, .int x] st h = zev xs L 44 5 [v0, .int x] (.int x :: st) h := zq_iln (by decide +kernel : decode (zco 44) 4 = .ok (.iload_n 1, 1)) rfl
theorem q44_5 {x : Nat} : zev xs L 44 5 [.ref x, v1] st h = zev xs L 44 6 [.ref x, v1] (.ref x :: st) h := zq_aln (by decide +kernel : decode (zco 44) 5 = .ok (.aload_n 0, 1)) rfl
theorem q44_6 {a : Nat} : zev xs L 44 6 ls (.ref a :: st) h = (zget h a 5 0).bind (fun v => zev xs L 44 9 ls (v :: st) h) := zq_gf (by decide +kernel : decode (zco 44) 6 = .ok (.getfield 27, 3)) (by decide +kernel)
theorem q44_9 {x y : Int32} : zev xs L 44 9 ls (.int y :: .int x :: st) h = if x < y then zev xs L 44 14 ls st h else zev xs L 44 12 ls st h := (zq_ic2 (by decide +kernel : decode (zco 44) 9 = .ok (.if_icmp .lt 5, 3)) (by decide +kernel)).trans (zdec rfl)
theorem q44_12 : zev xs L 44 12 ls st h = zev xs L 44 13 ls (.int (nI 0) :: st) h := zq_ic (by decide +kernel : decode (zco 44) 12 = .ok (.iconst 0, 1)) rfl
theorem q44_13 {x : Int32} : zev xs L 44 13 ls [.int x] h = if zbk x = true then some (some (.int x), h) else none := zq_rzi (by decide +kernel : decode (zco 44) 13 = .ok (.ireturn, 1)) (by decide +kernel)
theorem q44_14 {x : Nat} : zev xs L 44 14 [.ref x, v1] st h = zev xs L 44 15 [.ref x, v1] (.ref x :: st) h := zq_aln (by decide +kernel : decode (zco 44) 14 = .ok (.aload_n 0, 1)) rfl
theorem q44_15 {x : Nat} : zev xs L 44 15 ls (.ref x :: st) h = zev xs L 44 16 ls (.ref x :: .ref x :: st) h := zq_dupa (by decide +kernel : decode (zco 44) 15 = .ok (.dup, 1))
theorem q44_16 {a : Nat} : zev xs L 44 16 ls (.ref a :: st) h = (zget h a 5 4).bind (fun v => zev xs L 44 19 ls (v :: st) h) := zq_gf (by decide +kernel : decode (zco 44) 16 = .ok (.getfield 40, 3)) (by decide +kernel)
theorem q44_19 : zev xs L 44 19 ls st h = zev xs L 44 20 ls (.int (nI 1) :: st) h := zq_ic (by decide +kernel : decode (zco 44) 19 = .ok (.iconst 1, 1)) rfl
theorem q44_20 {x : Int32} : zev xs L 44 20 [v0, .int x] st h = zev xs L 44 21 [v0, .int x] (.int x :: st) h := zq_iln (by decide +kernel : decode (zco 44) 20 = .ok (.iload_n 1, 1)) rfl
theorem q44_21 {x y : Int32} : zev xs L 44 21 ls (.int y :: .int x :: st) h = zev xs L 44 22 ls (.int (x <<< (y &&& 31)) :: st) h := zq_ishl (by decide +kernel : decode (zco 44) 21 = .ok (.ishl, 1))
theorem q44_22 {x y : Int32} : zev xs L 44 22 ls (.int y :: .int x :: st) h = zev xs L 44 23 ls (.int (x ||| y) :: st) h := zq_ior (by decide +kernel : decode (zco 44) 22 = .ok (.ior, 1))
theorem q44_23 {x : Int32} {a : Nat} : zev xs L 44 23 ls (.int x :: .ref a :: st) h = (zput h a 5 4 (.int x)).bind (fun h => zev xs L 44 26 ls st h) := zq_pfi (by decide +kernel : decode (zco 44) 23 = .ok (.putfield 40, 3)) (by decide +kernel) (by decide +kernel)
theorem q44_26 : zev xs L 44 26 ls st h = zev xs L 44 27 ls (.int (nI 1) :: st) h := zq_ic (by decide +kernel : decode (zco 44) 26 = .ok (.iconst 1, 1)) rfl
theorem q44_27 {x : Int32} : zev xs L 44 27 ls [.int x] h = if zbk x = true then some (some (.int x), h) else none := zq_rzi (by decide +kernel : decode (zco 44) 27 = .ok (.ireturn, 1)) (by decide +kernel)
end
/- X5_canBeLaid -/
section
variable {xs : Nat → Int32} {L : Nat} {ls st : List Value} {h : ZH} {v0 : Value} 
theorem q45_0 {x : Nat} : zev xs L 45 0 [.ref x] st h = zev xs L 45 1 [.ref x] (.ref x :: st) h := zq_aln (by decide +kernel : decode (zco 45) 0 = .ok (.aload_n 0, 1)) rfl
theorem q45_1 {a : Nat} : zev xs L 45 1 ls (.ref a :: st) h = (zget h a 5 0).bind (fun v => zev xs L 45 4 ls (v :: st) h) := zq_gf (by decide +kernel : decode (zco 45) 1 = .ok (.getfield 27, 3)) (by decide +kernel)
theorem q45_4 {x : Int32} : zev xs L 45 4 ls (.int x :: st) h = if 0 < x then zev xs L 45 7 ls st h else zev xs L 45 29 ls st h := (zq_if (by decide +kernel : decode (zco 45) 4 = .ok (.ifCond .le 25, 3)) (by decide +kernel)).trans (zdge)
theorem q45_7 {x : Nat} : zev xs L 45 7 [.ref x] st h = zev xs L 45 8 [.ref x] (.ref x :: st) h := zq_aln (by decide +kernel : decode (zco 45) 7 = .ok (.aload_n 0, 1)) rfl
theorem q45_8 {a : Nat} : zev xs L 45 8 ls (.ref a :: st) h = (zget h a 5 1).bind (fun v => zev xs L 45 11 ls (v :: st) h) := zq_gf (by decide +kernel : decode (zco 45) 8 = .ok (.getfield 31, 3)) (by decide +kernel)
theorem q45_11 {x : Int32} : zev xs L 45 11 ls (.int x :: st) h = if 0 < x then zev xs L 45 14 ls st h else zev xs L 45 29 ls st h := (zq_if (by decide +kernel : decode (zco 45) 11 = .ok (.ifCond .le 18, 3)) (by decide +kernel)).trans (zdge)
theorem q45_14 {x : Nat} : zev xs L 45 14 [.ref x] st h = zev xs L 45 15 [.ref x] (.ref x :: st) h := zq_aln (by decide +kernel : decode (zco 45) 14 = .ok (.aload_n 0, 1)) rfl
theorem q45_15 {a : Nat} : zev xs L 45 15 ls (.ref a :: st) h = (zget h a 5 2).bind (fun v => zev xs L 45 18 ls (v :: st) h) := zq_gf (by decide +kernel : decode (zco 45) 15 = .ok (.getfield 34, 3)) (by decide +kernel)
theorem q45_18 {x : Nat} : zev xs L 45 18 [.ref x] st h = zev xs L 45 19 [.ref x] (.ref x :: st) h := zq_aln (by decide +kernel : decode (zco 45) 18 = .ok (.aload_n 0, 1)) rfl
theorem q45_19 {a : Nat} : zev xs L 45 19 ls (.ref a :: st) h = (zget h a 5 1).bind (fun v => zev xs L 45 22 ls (v :: st) h) := zq_gf (by decide +kernel : decode (zco 45) 19 = .ok (.getfield 31, 3)) (by decide +kernel)
theorem q45_22 {x y : Int32} : zev xs L 45 22 ls (.int y :: .int x :: st) h = if x = y then zev xs L 45 25 ls st h else zev xs L 45 29 ls st h := (zq_ic2 (by decide +kernel : decode (zco 45) 22 = .ok (.if_icmp .ne 7, 3)) (by decide +kernel)).trans (zdecn rfl)
theorem q45_25 : zev xs L 45 25 ls st h = zev xs L 45 26 ls (.int (nI 1) :: st) h := zq_ic (by decide +kernel : decode (zco 45) 25 = .ok (.iconst 1, 1)) rfl
theorem q45_26 : zev xs L 45 26 ls st h = zev xs L 45 30 ls st h := zq_go (by decide +kernel : decode (zco 45) 26 = .ok (.goto 4, 3)) (by decide +kernel)
theorem q45_29 : zev xs L 45 29 ls st h = zev xs L 45 30 ls (.int (nI 0) :: st) h := zq_ic (by decide +kernel : decode (zco 45) 29 = .ok (.iconst 0, 1)) rfl
theorem q45_30 {x : Int32} : zev xs L 45 30 ls [.int x] h = if zbk x = true then some (some (.int x), h) else none := zq_rzi (by decide +kernel : decode (zco 45) 30 = .ok (.ireturn, 1)) (by decide +kernel)
end
/- X5_rightDeeds -/
section
variable {xs : Nat → Int32} {L : Nat} {ls st : List Value} {h : ZH} {v0 v1 v2 : Value} 
theorem q46_0 {x : Nat} : zev xs L 46 0 [.ref x, v1, v2] st h = zev xs L 46 1 [.ref x, v1, v2] (.ref x :: st) h := zq_aln (by decide +kernel : decode (zco 46) 0 = .ok (.aload_n 0, 1)) rfl
theorem q46_1 {a : Nat} : zev xs L 46 1 ls (.ref a :: st) h = (zget h a 5 8).bind (fun v => zev xs L 46 4 ls (v :: st) h) := zq_gf (by decide +kernel : decode (zco 46) 1 = .ok (.getfield 21, 3)) (by decide +kernel)
theorem q46_4 {x : Int32} : zev xs L 46 4 [v0, .int x, v2] st h = zev xs L 46 5 [v0, .int x, v2] (.int x :: st) h := zq_iln (by decide +kernel : decode (zco 46) 4 = .ok (.iload_n 1, 1)) rfl
theorem q46_5 {x0 : Nat} {x1 : Int32} : zev xs L 46 5 ls [.int x1, .ref x0] h = (zev xs L 98 0 [.ref x0, .int x1] [] h).bind (fun q => zev xs L 46 8 ls (q.1.toList ++ []) q.2) := zq_call (av := [.ref x0, .int x1]) (rest := []) (n := 2) (k := 2) (J := []) (i := .invokestatic 51) (by decide +kernel : decode (zco 46) 5 = .ok (.invokestatic 51, 3)) rfl (by decide +kernel) (by decide +kernel) (Nat.le_of_ble_eq_true rfl) rfl rfl rfl rfl (Or.inr (Or.inl rfl))
theorem q46_8 {x : Nat} : zev xs L 46 8 [.ref x, v1, v2] st h = zev xs L 46 9 [.ref x, v1, v2] (.ref x :: st) h := zq_aln (by decide +kernel : decode (zco 46) 8 = .ok (.aload_n 0, 1)) rfl
theorem q46_9 {a : Nat} : zev xs L 46 9 ls (.ref a :: st) h = (zget h a 5 5).bind (fun v => zev xs L 46 12 ls (v :: st) h) := zq_gf (by decide +kernel : decode (zco 46) 9 = .ok (.getfield 9, 3)) (by decide +kernel)
theorem q46_12 {x : Int32} : zev xs L 46 12 [v0, v1, .int x] st h = zev xs L 46 13 [v0, v1, .int x] (.int x :: st) h := zq_iln (by decide +kernel : decode (zco 46) 12 = .ok (.iload_n 2, 1)) rfl
theorem q46_13 {x0 : Nat} {x1 : Int32} {r1 : Value} : zev xs L 46 13 ls [.int x1, .ref x0, r1] h = (zev xs L 98 0 [.ref x0, .int x1] [] h).bind (fun q => zev xs L 46 16 ls (q.1.toList ++ [r1]) q.2) := zq_call (av := [.ref x0, .int x1]) (rest := [r1]) (n := 2) (k := 2) (J := []) (i := .invokestatic 51) (by decide +kernel : decode (zco 46) 13 = .ok (.invokestatic 51, 3)) rfl (by decide +kernel) (by decide +kernel) (Nat.le_of_ble_eq_true rfl) rfl rfl rfl rfl (Or.inr (Or.inl rfl))
theorem q46_16 {x y : Int32} : zev xs L 46 16 ls (.int y :: .int x :: st) h = zev xs L 46 17 ls (.int (x &&& y) :: st) h := zq_iand (by decide +kernel : decode (zco 46) 16 = .ok (.iand, 1))
theorem q46_17 {x : Int32} : zev xs L 46 17 ls [.int x] h = some (some (.int x), h) := zq_ri (by decide +kernel : decode (zco 46) 17 = .ok (.ireturn, 1)) (by decide +kernel)
end
