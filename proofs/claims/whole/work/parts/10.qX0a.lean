/- X0_init -/
section
variable {xs : Nat → Int32} {L : Nat} {ls st : List Value} {h : ZH} {v0 : Value} 
theorem q0_0 {x : Nat} : zev xs L 0 0 [.ref x] st h = zev xs L 0 1 [.ref x] (.ref x :: st) h := zq_aln (by decide +kernel : decode (zco 0) 0 = .ok (.aload_n 0, 1)) rfl
theorem q0_1 {a : Nat} : zev xs L 0 1 ls [.ref a] h = zev xs L 0 4 ls [] h := zq_obj (by decide +kernel : decode (zco 0) 1 = .ok (.invokespecial 3, 3)) (by decide +kernel) (Nat.le_of_ble_eq_true rfl) (by decide +kernel)
theorem q0_4 {x : Nat} : zev xs L 0 4 [.ref x] st h = zev xs L 0 5 [.ref x] (.ref x :: st) h := zq_aln (by decide +kernel : decode (zco 0) 4 = .ok (.aload_n 0, 1)) rfl
theorem q0_5 : zev xs L 0 5 ls st h = zev xs L 0 7 ls (.int (nI 6) :: st) h := zq_bi (by decide +kernel : decode (zco 0) 5 = .ok (.bipush 6, 2)) rfl
-- .newarray .int at 7
theorem q0_7 {k : Nat} (hk : k ≤ 1000) : zev xs L 0 7 ls (.int (nI k) :: st) h = zev xs L 0 9 ls (.ref h.length :: st) (h ++ [(20, List.replicate k (.int 0))]) := zq_na (by decide +kernel : decode (zco 0) 7 = .ok (.newarray .int, 2)) ⟨nI_pos (by omega), by rw [nI_clamp (by omega)]; exact hk, by decide⟩ (nI_clamp (by omega)) rfl
theorem q0_9 {x a : Nat} : zev xs L 0 9 ls (.ref x :: .ref a :: st) h = (zput h a 0 0 (.ref x)).bind (fun h => zev xs L 0 12 ls st h) := zq_pfa (by decide +kernel : decode (zco 0) 9 = .ok (.putfield 9, 3)) (by decide +kernel) (by decide +kernel)
theorem q0_12 {x : Nat} : zev xs L 0 12 [.ref x] st h = zev xs L 0 13 [.ref x] (.ref x :: st) h := zq_aln (by decide +kernel : decode (zco 0) 12 = .ok (.aload_n 0, 1)) rfl
theorem q0_13 : zev xs L 0 13 ls st h = zev xs L 0 15 ls (.int (nI 6) :: st) h := zq_bi (by decide +kernel : decode (zco 0) 13 = .ok (.bipush 6, 2)) rfl
-- .newarray .int at 15
theorem q0_15 {k : Nat} (hk : k ≤ 1000) : zev xs L 0 15 ls (.int (nI k) :: st) h = zev xs L 0 17 ls (.ref h.length :: st) (h ++ [(20, List.replicate k (.int 0))]) := zq_na (by decide +kernel : decode (zco 0) 15 = .ok (.newarray .int, 2)) ⟨nI_pos (by omega), by rw [nI_clamp (by omega)]; exact hk, by decide⟩ (nI_clamp (by omega)) rfl
theorem q0_17 {x a : Nat} : zev xs L 0 17 ls (.ref x :: .ref a :: st) h = (zput h a 0 1 (.ref x)).bind (fun h => zev xs L 0 20 ls st h) := zq_pfa (by decide +kernel : decode (zco 0) 17 = .ok (.putfield 15, 3)) (by decide +kernel) (by decide +kernel)
theorem q0_20 {x : Nat} : zev xs L 0 20 [.ref x] st h = zev xs L 0 21 [.ref x] (.ref x :: st) h := zq_aln (by decide +kernel : decode (zco 0) 20 = .ok (.aload_n 0, 1)) rfl
theorem q0_21 : zev xs L 0 21 ls st h = zev xs L 0 23 ls (.int (nI 30) :: st) h := zq_bi (by decide +kernel : decode (zco 0) 21 = .ok (.bipush 30, 2)) rfl
-- .newarray .int at 23
theorem q0_23 {k : Nat} (hk : k ≤ 1000) : zev xs L 0 23 ls (.int (nI k) :: st) h = zev xs L 0 25 ls (.ref h.length :: st) (h ++ [(20, List.replicate k (.int 0))]) := zq_na (by decide +kernel : decode (zco 0) 23 = .ok (.newarray .int, 2)) ⟨nI_pos (by omega), by rw [nI_clamp (by omega)]; exact hk, by decide⟩ (nI_clamp (by omega)) rfl
theorem q0_25 {x a : Nat} : zev xs L 0 25 ls (.ref x :: .ref a :: st) h = (zput h a 0 2 (.ref x)).bind (fun h => zev xs L 0 28 ls st h) := zq_pfa (by decide +kernel : decode (zco 0) 25 = .ok (.putfield 18, 3)) (by decide +kernel) (by decide +kernel)
theorem q0_28 {x : Nat} : zev xs L 0 28 [.ref x] st h = zev xs L 0 29 [.ref x] (.ref x :: st) h := zq_aln (by decide +kernel : decode (zco 0) 28 = .ok (.aload_n 0, 1)) rfl
theorem q0_29 : zev xs L 0 29 ls st h = zev xs L 0 31 ls (.int (nI 6) :: st) h := zq_bi (by decide +kernel : decode (zco 0) 29 = .ok (.bipush 6, 2)) rfl
-- .newarray .int at 31
theorem q0_31 {k : Nat} (hk : k ≤ 1000) : zev xs L 0 31 ls (.int (nI k) :: st) h = zev xs L 0 33 ls (.ref h.length :: st) (h ++ [(20, List.replicate k (.int 0))]) := zq_na (by decide +kernel : decode (zco 0) 31 = .ok (.newarray .int, 2)) ⟨nI_pos (by omega), by rw [nI_clamp (by omega)]; exact hk, by decide⟩ (nI_clamp (by omega)) rfl
theorem q0_33 {x a : Nat} : zev xs L 0 33 ls (.ref x :: .ref a :: st) h = (zput h a 0 3 (.ref x)).bind (fun h => zev xs L 0 36 ls st h) := zq_pfa (by decide +kernel : decode (zco 0) 33 = .ok (.putfield 21, 3)) (by decide +kernel) (by decide +kernel)
theorem q0_36 {x : Nat} : zev xs L 0 36 [.ref x] st h = zev xs L 0 37 [.ref x] (.ref x :: st) h := zq_aln (by decide +kernel : decode (zco 0) 36 = .ok (.aload_n 0, 1)) rfl
theorem q0_37 : zev xs L 0 37 ls st h = zev xs L 0 39 ls (.int (nI 6) :: st) h := zq_bi (by decide +kernel : decode (zco 0) 37 = .ok (.bipush 6, 2)) rfl
-- .newarray .int at 39
theorem q0_39 {k : Nat} (hk : k ≤ 1000) : zev xs L 0 39 ls (.int (nI k) :: st) h = zev xs L 0 41 ls (.ref h.length :: st) (h ++ [(20, List.replicate k (.int 0))]) := zq_na (by decide +kernel : decode (zco 0) 39 = .ok (.newarray .int, 2)) ⟨nI_pos (by omega), by rw [nI_clamp (by omega)]; exact hk, by decide⟩ (nI_clamp (by omega)) rfl
theorem q0_41 {x a : Nat} : zev xs L 0 41 ls (.ref x :: .ref a :: st) h = (zput h a 0 4 (.ref x)).bind (fun h => zev xs L 0 44 ls st h) := zq_pfa (by decide +kernel : decode (zco 0) 41 = .ok (.putfield 24, 3)) (by decide +kernel) (by decide +kernel)
theorem q0_44 : zev xs L 0 44 ls [] h = some (none, h) := zq_rv (by decide +kernel : decode (zco 0) 44 = .ok (.return_, 1)) (by decide +kernel)
end
/- X0_enter -/
section
variable {xs : Nat → Int32} {L : Nat} {ls st : List Value} {h : ZH} {v0 v1 v2 : Value} 
theorem q1_0 {x : Nat} : zev xs L 1 0 [.ref x, v1, v2] st h = zev xs L 1 1 [.ref x, v1, v2] (.ref x :: st) h := zq_aln (by decide +kernel : decode (zco 1) 0 = .ok (.aload_n 0, 1)) rfl
theorem q1_1 {x : Nat} : zev xs L 1 1 [v0, .ref x, v2] st h = zev xs L 1 2 [v0, .ref x, v2] (.ref x :: st) h := zq_aln (by decide +kernel : decode (zco 1) 1 = .ok (.aload_n 1, 1)) rfl
theorem q1_2 {a : Nat} : zev xs L 1 2 ls (.ref a :: st) h = (zget h a 5 1).bind (fun v => zev xs L 1 5 ls (v :: st) h) := zq_gf (by decide +kernel : decode (zco 1) 2 = .ok (.getfield 27, 3)) (by decide +kernel)
theorem q1_5 : zev xs L 1 5 ls st h = zev xs L 1 7 ls (.int (nI 6) :: st) h := zq_bi (by decide +kernel : decode (zco 1) 5 = .ok (.bipush 6, 2)) rfl
theorem q1_7 {x y : Int32} {r1 : Value} : zev xs L 1 7 ls [.int y, .int x, r1] h = zev xs L 1 10 ls [.int (if y < x then y else x), r1] h := zq_min (by decide +kernel : decode (zco 1) 7 = .ok (.invokestatic 33, 3)) (by decide +kernel) (Nat.le_of_ble_eq_true rfl) (by decide +kernel)
theorem q1_10 {x : Int32} {a : Nat} : zev xs L 1 10 ls (.int x :: .ref a :: st) h = (zput h a 0 5 (.int x)).bind (fun h => zev xs L 1 13 ls st h) := zq_pfi (by decide +kernel : decode (zco 1) 10 = .ok (.putfield 39, 3)) (by decide +kernel) (by decide +kernel)
theorem q1_13 {x : Nat} : zev xs L 1 13 [.ref x, v1, v2] st h = zev xs L 1 14 [.ref x, v1, v2] (.ref x :: st) h := zq_aln (by decide +kernel : decode (zco 1) 13 = .ok (.aload_n 0, 1)) rfl
theorem q1_14 {x : Nat} : zev xs L 1 14 [v0, .ref x, v2] st h = zev xs L 1 15 [v0, .ref x, v2] (.ref x :: st) h := zq_aln (by decide +kernel : decode (zco 1) 14 = .ok (.aload_n 1, 1)) rfl
theorem q1_15 {a : Nat} : zev xs L 1 15 ls (.ref a :: st) h = (zget h a 5 4).bind (fun v => zev xs L 1 18 ls (v :: st) h) := zq_gf (by decide +kernel : decode (zco 1) 15 = .ok (.getfield 40, 3)) (by decide +kernel)
theorem q1_18 {x : Int32} {a : Nat} : zev xs L 1 18 ls (.int x :: .ref a :: st) h = (zput h a 0 6 (.int x)).bind (fun h => zev xs L 1 21 ls st h) := zq_pfi (by decide +kernel : decode (zco 1) 18 = .ok (.putfield 43, 3)) (by decide +kernel) (by decide +kernel)
theorem q1_21 {x : Nat} : zev xs L 1 21 [v0, v1, .ref x] st h = zev xs L 1 22 [v0, v1, .ref x] (.ref x :: st) h := zq_aln (by decide +kernel : decode (zco 1) 21 = .ok (.aload_n 2, 1)) rfl
theorem q1_22 {a : Nat} : zev xs L 1 22 ls (.ref a :: st) h = (zget h a 1 2).bind (fun v => zev xs L 1 25 ls (v :: st) h) := zq_gf (by decide +kernel : decode (zco 1) 22 = .ok (.getfield 44, 3)) (by decide +kernel)
theorem q1_25 : zev xs L 1 25 ls st h = zev xs L 1 26 ls (.int (nI 0) :: st) h := zq_ic (by decide +kernel : decode (zco 1) 25 = .ok (.iconst 0, 1)) rfl
theorem q1_26 {x : Nat} : zev xs L 1 26 [.ref x, v1, v2] st h = zev xs L 1 27 [.ref x, v1, v2] (.ref x :: st) h := zq_aln (by decide +kernel : decode (zco 1) 26 = .ok (.aload_n 0, 1)) rfl
theorem q1_27 {a : Nat} : zev xs L 1 27 ls (.ref a :: st) h = (zget h a 0 0).bind (fun v => zev xs L 1 30 ls (v :: st) h) := zq_gf (by decide +kernel : decode (zco 1) 27 = .ok (.getfield 9, 3)) (by decide +kernel)
theorem q1_30 : zev xs L 1 30 ls st h = zev xs L 1 31 ls (.int (nI 0) :: st) h := zq_ic (by decide +kernel : decode (zco 1) 30 = .ok (.iconst 0, 1)) rfl
theorem q1_31 : zev xs L 1 31 ls st h = zev xs L 1 33 ls (.int (nI 6) :: st) h := zq_bi (by decide +kernel : decode (zco 1) 31 = .ok (.bipush 6, 2)) rfl
theorem q1_33 {a b k : Nat} (hk : k ≤ 1000) : zev xs L 1 33 ls [.int (nI k), .int (nI 0), .ref a, .int (nI 0), .ref b] h = (zcpy h b a k).bind (fun h => zev xs L 1 36 ls [] h) := zq_cpy (by decide +kernel : decode (zco 1) 33 = .ok (.invokestatic 47, 3)) (by decide +kernel) (Nat.le_of_ble_eq_true rfl) (by decide +kernel) (nI_pos (by omega)) (nI_clamp (by omega))
theorem q1_36 {x : Nat} : zev xs L 1 36 [v0, v1, .ref x] st h = zev xs L 1 37 [v0, v1, .ref x] (.ref x :: st) h := zq_aln (by decide +kernel : decode (zco 1) 36 = .ok (.aload_n 2, 1)) rfl
theorem q1_37 {a : Nat} : zev xs L 1 37 ls (.ref a :: st) h = (zget h a 1 3).bind (fun v => zev xs L 1 40 ls (v :: st) h) := zq_gf (by decide +kernel : decode (zco 1) 37 = .ok (.getfield 53, 3)) (by decide +kernel)
theorem q1_40 : zev xs L 1 40 ls st h = zev xs L 1 41 ls (.int (nI 0) :: st) h := zq_ic (by decide +kernel : decode (zco 1) 40 = .ok (.iconst 0, 1)) rfl
theorem q1_41 {x : Nat} : zev xs L 1 41 [.ref x, v1, v2] st h = zev xs L 1 42 [.ref x, v1, v2] (.ref x :: st) h := zq_aln (by decide +kernel : decode (zco 1) 41 = .ok (.aload_n 0, 1)) rfl
theorem q1_42 {a : Nat} : zev xs L 1 42 ls (.ref a :: st) h = (zget h a 0 1).bind (fun v => zev xs L 1 45 ls (v :: st) h) := zq_gf (by decide +kernel : decode (zco 1) 42 = .ok (.getfield 15, 3)) (by decide +kernel)
theorem q1_45 : zev xs L 1 45 ls st h = zev xs L 1 46 ls (.int (nI 0) :: st) h := zq_ic (by decide +kernel : decode (zco 1) 45 = .ok (.iconst 0, 1)) rfl
theorem q1_46 : zev xs L 1 46 ls st h = zev xs L 1 48 ls (.int (nI 6) :: st) h := zq_bi (by decide +kernel : decode (zco 1) 46 = .ok (.bipush 6, 2)) rfl
theorem q1_48 {a b k : Nat} (hk : k ≤ 1000) : zev xs L 1 48 ls [.int (nI k), .int (nI 0), .ref a, .int (nI 0), .ref b] h = (zcpy h b a k).bind (fun h => zev xs L 1 51 ls [] h) := zq_cpy (by decide +kernel : decode (zco 1) 48 = .ok (.invokestatic 47, 3)) (by decide +kernel) (Nat.le_of_ble_eq_true rfl) (by decide +kernel) (nI_pos (by omega)) (nI_clamp (by omega))
theorem q1_51 {x : Nat} : zev xs L 1 51 [v0, .ref x, v2] st h = zev xs L 1 52 [v0, .ref x, v2] (.ref x :: st) h := zq_aln (by decide +kernel : decode (zco 1) 51 = .ok (.aload_n 1, 1)) rfl
theorem q1_52 {a : Nat} : zev xs L 1 52 ls (.ref a :: st) h = (zget h a 5 9).bind (fun v => zev xs L 1 55 ls (v :: st) h) := zq_gf (by decide +kernel : decode (zco 1) 52 = .ok (.getfield 54, 3)) (by decide +kernel)
theorem q1_55 : zev xs L 1 55 ls st h = zev xs L 1 56 ls (.int (nI 0) :: st) h := zq_ic (by decide +kernel : decode (zco 1) 55 = .ok (.iconst 0, 1)) rfl
theorem q1_56 {x : Nat} : zev xs L 1 56 [.ref x, v1, v2] st h = zev xs L 1 57 [.ref x, v1, v2] (.ref x :: st) h := zq_aln (by decide +kernel : decode (zco 1) 56 = .ok (.aload_n 0, 1)) rfl
theorem q1_57 {a : Nat} : zev xs L 1 57 ls (.ref a :: st) h = (zget h a 0 2).bind (fun v => zev xs L 1 60 ls (v :: st) h) := zq_gf (by decide +kernel : decode (zco 1) 57 = .ok (.getfield 18, 3)) (by decide +kernel)
theorem q1_60 : zev xs L 1 60 ls st h = zev xs L 1 61 ls (.int (nI 0) :: st) h := zq_ic (by decide +kernel : decode (zco 1) 60 = .ok (.iconst 0, 1)) rfl
theorem q1_61 : zev xs L 1 61 ls st h = zev xs L 1 63 ls (.int (nI 30) :: st) h := zq_bi (by decide +kernel : decode (zco 1) 61 = .ok (.bipush 30, 2)) rfl
theorem q1_63 {a b k : Nat} (hk : k ≤ 1000) : zev xs L 1 63 ls [.int (nI k), .int (nI 0), .ref a, .int (nI 0), .ref b] h = (zcpy h b a k).bind (fun h => zev xs L 1 66 ls [] h) := zq_cpy (by decide +kernel : decode (zco 1) 63 = .ok (.invokestatic 47, 3)) (by decide +kernel) (Nat.le_of_ble_eq_true rfl) (by decide +kernel) (nI_pos (by omega)) (nI_clamp (by omega))
theorem q1_66 : zev xs L 1 66 ls [] h = some (none, h) := zq_rv (by decide +kernel : decode (zco 1) 66 = .ok (.return_, 1)) (by decide +kernel)
end
/- X0_kindWornBy -/
section
variable {xs : Nat → Int32} {L : Nat} {ls st : List Value} {h : ZH} {v0 v1 : Value} 
theorem q2_0 {x : Nat} : zev xs L 2 0 [.ref x, v1] st h = zev xs L 2 1 [.ref x, v1] (.ref x :: st) h := zq_aln (by decide +kernel : decode (zco 2) 0 = .ok (.aload_n 0, 1)) rfl
theorem q2_1 {a : Nat} : zev xs L 2 1 ls (.ref a :: st) h = (zget h a 0 1).bind (fun v => zev xs L 2 4 ls (v :: st) h) := zq_gf (by decide +kernel : decode (zco 2) 1 = .ok (.getfield 15, 3)) (by decide +kernel)
theorem q2_4 {x : Nat} : zev xs L 2 4 [.ref x, v1] st h = zev xs L 2 5 [.ref x, v1] (.ref x :: st) h := zq_aln (by decide +kernel : decode (zco 2) 4 = .ok (.aload_n 0, 1)) rfl
theorem q2_5 {a : Nat} : zev xs L 2 5 ls (.ref a :: st) h = (zget h a 0 0).bind (fun v => zev xs L 2 8 ls (v :: st) h) := zq_gf (by decide +kernel : decode (zco 2) 5 = .ok (.getfield 9, 3)) (by decide +kernel)
theorem q2_8 {x : Int32} : zev xs L 2 8 [v0, .int x] st h = zev xs L 2 9 [v0, .int x] (.int x :: st) h := zq_iln (by decide +kernel : decode (zco 2) 8 = .ok (.iload_n 1, 1)) rfl
theorem q2_9 {x0 : Nat} {x1 : Int32} {r1 : Value} : zev xs L 2 9 ls [.int x1, .ref x0, r1] h = (zev xs L 98 0 [.ref x0, .int x1] [] h).bind (fun q => zev xs L 2 12 ls (q.1.toList ++ [r1]) q.2) := zq_call (av := [.ref x0, .int x1]) (rest := [r1]) (n := 2) (k := 2) (J := []) (i := .invokestatic 55) (by decide +kernel : decode (zco 2) 9 = .ok (.invokestatic 55, 3)) rfl (by decide +kernel) (by decide +kernel) (Nat.le_of_ble_eq_true rfl) rfl rfl rfl rfl (Or.inr (Or.inl rfl))
theorem q2_12 {x0 : Nat} {x1 : Int32} : zev xs L 2 12 ls [.int x1, .ref x0] h = (zev xs L 98 0 [.ref x0, .int x1] [] h).bind (fun q => zev xs L 2 15 ls (q.1.toList ++ []) q.2) := zq_call (av := [.ref x0, .int x1]) (rest := []) (n := 2) (k := 2) (J := []) (i := .invokestatic 55) (by decide +kernel : decode (zco 2) 12 = .ok (.invokestatic 55, 3)) rfl (by decide +kernel) (by decide +kernel) (Nat.le_of_ble_eq_true rfl) rfl rfl rfl rfl (Or.inr (Or.inl rfl))
theorem q2_15 {x : Int32} : zev xs L 2 15 ls [.int x] h = some (some (.int x), h) := zq_ri (by decide +kernel : decode (zco 2) 15 = .ok (.ireturn, 1)) (by decide +kernel)
end
/- X0_isFree -/
section
variable {xs : Nat → Int32} {L : Nat} {ls st : List Value} {h : ZH} {v0 v1 : Value} 
theorem q3_0 {x : Nat} : zev xs L 3 0 [.ref x, v1] st h = zev xs L 3 1 [.ref x, v1] (.ref x :: st) h := zq_aln (by decide +kernel : decode (zco 3) 0 = .ok (.aload_n 0, 1)) rfl
theorem q3_1 {a : Nat} : zev xs L 3 1 ls (.ref a :: st) h = (zget h a 0 6).bind (fun v => zev xs L 3 4 ls (v :: st) h) := zq_gf (by decide +kernel : decode (zco 3) 1 = .ok (.getfield 43, 3)) (by decide +kernel)
theorem q3_4 {x : Nat} : zev xs L 3 4 [.ref x, v1] st h = zev xs L 3 5 [.ref x, v1] (.ref x :: st) h := zq_aln (by decide +kernel : decode (zco 3) 4 = .ok (.aload_n 0, 1)) rfl
theorem q3_5 {x : Int32} : zev xs L 3 5 [v0, .int x] st h = zev xs L 3 6 [v0, .int x] (.int x :: st) h := zq_iln (by decide +kernel : decode (zco 3) 5 = .ok (.iload_n 1, 1)) rfl
theorem q3_6 {a : Nat} {x0 : Int32} {r1 : Value} (ht : ztag h a = some 0) : zev xs L 3 6 ls [.int x0, .ref a, r1] h = (zev xs L 2 0 [.ref a, .int x0] [] h).bind (fun q => zev xs L 3 9 ls (q.1.toList ++ [r1]) q.2) := zq_call (av := [.ref a, .int x0]) (rest := [r1]) (n := 2) (k := 2) (J := []) (i := .invokevirtual 59) (by decide +kernel : decode (zco 3) 6 = .ok (.invokevirtual 59, 3)) rfl (by decide +kernel) (by decide +kernel) (Nat.le_of_ble_eq_true rfl) rfl rfl rfl rfl (Or.inr (Or.inr ⟨_, _, rfl, Or.inr (Or.inr ⟨rfl, ht⟩)⟩))
theorem q3_9 {x0 : Int32} {x1 : Int32} : zev xs L 3 9 ls [.int x1, .int x0] h = (zev xs L 97 0 [.int x0, .int x1] [] h).bind (fun q => zev xs L 3 12 ls (q.1.toList ++ []) q.2) := zq_call (av := [.int x0, .int x1]) (rest := []) (n := 2) (k := 2) (J := []) (i := .invokestatic 63) (by decide +kernel : decode (zco 3) 9 = .ok (.invokestatic 63, 3)) rfl (by decide +kernel) (by decide +kernel) (Nat.le_of_ble_eq_true rfl) rfl rfl rfl rfl (Or.inr (Or.inl rfl))
theorem q3_12 {x : Int32} : zev xs L 3 12 ls (.int x :: st) h = if x = 0 then zev xs L 3 15 ls st h else zev xs L 3 19 ls st h := (zq_if (by decide +kernel : decode (zco 3) 12 = .ok (.ifCond .ne 7, 3)) (by decide +kernel)).trans (zdecn rfl)
theorem q3_15 : zev xs L 3 15 ls st h = zev xs L 3 16 ls (.int (nI 1) :: st) h := zq_ic (by decide +kernel : decode (zco 3) 15 = .ok (.iconst 1, 1)) rfl
theorem q3_16 : zev xs L 3 16 ls st h = zev xs L 3 20 ls st h := zq_go (by decide +kernel : decode (zco 3) 16 = .ok (.goto 4, 3)) (by decide +kernel)
theorem q3_19 : zev xs L 3 19 ls st h = zev xs L 3 20 ls (.int (nI 0) :: st) h := zq_ic (by decide +kernel : decode (zco 3) 19 = .ok (.iconst 0, 1)) rfl
theorem q3_20 {x : Int32} : zev xs L 3 20 ls [.int x] h = if zbk x = true then some (some (.int x), h) else none := zq_rzi (by decide +kernel : decode (zco 3) 20 = .ok (.ireturn, 1)) (by decide +kernel)
end
/- X0_worth -/
section
variable {xs : Nat → Int32} {L : Nat} {ls st : List Value} {h : ZH} {v0 v1 v2 : Value} 
theorem q4_0 {x : Nat} : zev xs L 4 0 [.ref x, v1, v2] st h = zev xs L 4 1 [.ref x, v1, v2] (.ref x :: st) h := zq_aln (by decide +kernel : decode (zco 4) 0 = .ok (.aload_n 0, 1)) rfl
theorem q4_1 {a : Nat} : zev xs L 4 1 ls (.ref a :: st) h = (zget h a 0 2).bind (fun v => zev xs L 4 4 ls (v :: st) h) := zq_gf (by decide +kernel : decode (zco 4) 1 = .ok (.getfield 18, 3)) (by decide +kernel)
theorem q4_4 {x : Int32} : zev xs L 4 4 [v0, .int x, v2] st h = zev xs L 4 5 [v0, .int x, v2] (.int x :: st) h := zq_iln (by decide +kernel : decode (zco 4) 4 = .ok (.iload_n 1, 1)) rfl
theorem q4_5 : zev xs L 4 5 ls st h = zev xs L 4 6 ls (.int (nI 5) :: st) h := zq_ic (by decide +kernel : decode (zco 4) 5 = .ok (.iconst 5, 1)) rfl
theorem q4_6 {x y : Int32} : zev xs L 4 6 ls (.int y :: .int x :: st) h = zev xs L 4 7 ls (.int (x * y) :: st) h := zq_imul (by decide +kernel : decode (zco 4) 6 = .ok (.imul, 1))
theorem q4_7 {x : Nat} : zev xs L 4 7 [.ref x, v1, v2] st h = zev xs L 4 8 [.ref x, v1, v2] (.ref x :: st) h := zq_aln (by decide +kernel : decode (zco 4) 7 = .ok (.aload_n 0, 1)) rfl
theorem q4_8 {x : Int32} : zev xs L 4 8 [v0, v1, .int x] st h = zev xs L 4 9 [v0, v1, .int x] (.int x :: st) h := zq_iln (by decide +kernel : decode (zco 4) 8 = .ok (.iload_n 2, 1)) rfl
theorem q4_9 {a : Nat} {x0 : Int32} {r1 r2 : Value} (ht : ztag h a = some 0) : zev xs L 4 9 ls [.int x0, .ref a, r1, r2] h = (zev xs L 2 0 [.ref a, .int x0] [] h).bind (fun q => zev xs L 4 12 ls (q.1.toList ++ [r1, r2]) q.2) := zq_call (av := [.ref a, .int x0]) (rest := [r1, r2]) (n := 2) (k := 2) (J := []) (i := .invokevirtual 59) (by decide +kernel : decode (zco 4) 9 = .ok (.invokevirtual 59, 3)) rfl (by decide +kernel) (by decide +kernel) (Nat.le_of_ble_eq_true rfl) rfl rfl rfl rfl (Or.inr (Or.inr ⟨_, _, rfl, Or.inr (Or.inr ⟨rfl, ht⟩)⟩))
theorem q4_12 {x y : Int32} : zev xs L 4 12 ls (.int y :: .int x :: st) h = zev xs L 4 13 ls (.int (x + y) :: st) h := zq_iadd (by decide +kernel : decode (zco 4) 12 = .ok (.iadd, 1))
theorem q4_13 {x0 : Nat} {x1 : Int32} : zev xs L 4 13 ls [.int x1, .ref x0] h = (zev xs L 98 0 [.ref x0, .int x1] [] h).bind (fun q => zev xs L 4 16 ls (q.1.toList ++ []) q.2) := zq_call (av := [.ref x0, .int x1]) (rest := []) (n := 2) (k := 2) (J := []) (i := .invokestatic 55) (by decide +kernel : decode (zco 4) 13 = .ok (.invokestatic 55, 3)) rfl (by decide +kernel) (by decide +kernel) (Nat.le_of_ble_eq_true rfl) rfl rfl rfl rfl (Or.inr (Or.inl rfl))
theorem q4_16 {x : Int32} : zev xs L 4 16 ls [.int x] h = some (some (.int x), h) := zq_ri (by decide +kernel : decode (zco 4) 16 = .ok (.ireturn, 1)) (by decide +kernel)
end
/- X0_wouldBoth -/
section
variable {xs : Nat → Int32} {L : Nat} {ls st : List Value} {h : ZH} {v0 v1 v2 : Value} 
theorem q5_0 {x : Nat} : zev xs L 5 0 [.ref x, v1, v2] st h = zev xs L 5 1 [.ref x, v1, v2] (.ref x :: st) h := zq_aln (by decide +kernel : decode (zco 5) 0 = .ok (.aload_n 0, 1)) rfl
theorem q5_1 {x : Int32} : zev xs L 5 1 [v0, .int x, v2] st h = zev xs L 5 2 [v0, .int x, v2] (.int x :: st) h := zq_iln (by decide +kernel : decode (zco 5) 1 = .ok (.iload_n 1, 1)) rfl
theorem q5_2 {a : Nat} {x0 : Int32} (ht : ztag h a = some 0) : zev xs L 5 2 ls [.int x0, .ref a] h = (zev xs L 3 0 [.ref a, .int x0] [] h).bind (fun q => zev xs L 5 5 ls (q.1.toList ++ []) q.2) := zq_call (av := [.ref a, .int x0]) (rest := []) (n := 2) (k := 2) (J := []) (i := .invokevirtual 67) (by decide +kernel : decode (zco 5) 2 = .ok (.invokevirtual 67, 3)) rfl (by decide +kernel) (by decide +kernel) (Nat.le_of_ble_eq_true rfl) rfl rfl rfl rfl (Or.inr (Or.inr ⟨_, _, rfl, Or.inr (Or.inr ⟨rfl, ht⟩)⟩))
theorem q5_5 {x : Int32} : zev xs L 5 5 ls (.int x :: st) h = if x = 0 then zev xs L 5 50 ls st h else zev xs L 5 8 ls st h := (zq_if (by decide +kernel : decode (zco 5) 5 = .ok (.ifCond .eq 45, 3)) (by decide +kernel)).trans (zdec rfl)
theorem q5_8 {x : Nat} : zev xs L 5 8 [.ref x, v1, v2] st h = zev xs L 5 9 [.ref x, v1, v2] (.ref x :: st) h := zq_aln (by decide +kernel : decode (zco 5) 8 = .ok (.aload_n 0, 1)) rfl
theorem q5_9 {x : Int32} : zev xs L 5 9 [v0, v1, .int x] st h = zev xs L 5 10 [v0, v1, .int x] (.int x :: st) h := zq_iln (by decide +kernel : decode (zco 5) 9 = .ok (.iload_n 2, 1)) rfl
theorem q5_10 {a : Nat} {x0 : Int32} (ht : ztag h a = some 0) : zev xs L 5 10 ls [.int x0, .ref a] h = (zev xs L 3 0 [.ref a, .int x0] [] h).bind (fun q => zev xs L 5 13 ls (q.1.toList ++ []) q.2) := zq_call (av := [.ref a, .int x0]) (rest := []) (n := 2) (k := 2) (J := []) (i := .invokevirtual 67) (by decide +kernel : decode (zco 5) 10 = .ok (.invokevirtual 67, 3)) rfl (by decide +kernel) (by decide +kernel) (Nat.le_of_ble_eq_true rfl) rfl rfl rfl rfl (Or.inr (Or.inr ⟨_, _, rfl, Or.inr (Or.inr ⟨rfl, ht⟩)⟩))
theorem q5_13 {x : Int32} : zev xs L 5 13 ls (.int x :: st) h = if x = 0 then zev xs L 5 50 ls st h else zev xs L 5 16 ls st h := (zq_if (by decide +kernel : decode (zco 5) 13 = .ok (.ifCond .eq 37, 3)) (by decide +kernel)).trans (zdec rfl)
theorem q5_16 {x : Nat} : zev xs L 5 16 [.ref x, v1, v2] st h = zev xs L 5 17 [.ref x, v1, v2] (.ref x :: st) h := zq_aln (by decide +kernel : decode (zco 5) 16 = .ok (.aload_n 0, 1)) rfl
theorem q5_17 {x : Int32} : zev xs L 5 17 [v0, .int x, v2] st h = zev xs L 5 18 [v0, .int x, v2] (.int x :: st) h := zq_iln (by decide +kernel : decode (zco 5) 17 = .ok (.iload_n 1, 1)) rfl
theorem q5_18 {x : Int32} : zev xs L 5 18 [v0, v1, .int x] st h = zev xs L 5 19 [v0, v1, .int x] (.int x :: st) h := zq_iln (by decide +kernel : decode (zco 5) 18 = .ok (.iload_n 2, 1)) rfl
theorem q5_19 {a : Nat} {x0 : Int32} {x1 : Int32} (ht : ztag h a = some 0) : zev xs L 5 19 ls [.int x1, .int x0, .ref a] h = (zev xs L 4 0 [.ref a, .int x0, .int x1] [] h).bind (fun q => zev xs L 5 22 ls (q.1.toList ++ []) q.2) := zq_call (av := [.ref a, .int x0, .int x1]) (rest := []) (n := 3) (k := 3) (J := []) (i := .invokevirtual 71) (by decide +kernel : decode (zco 5) 19 = .ok (.invokevirtual 71, 3)) rfl (by decide +kernel) (by decide +kernel) (Nat.le_of_ble_eq_true rfl) rfl rfl rfl rfl (Or.inr (Or.inr ⟨_, _, rfl, Or.inr (Or.inr ⟨rfl, ht⟩)⟩))
theorem q5_22 {x : Nat} : zev xs L 5 22 [.ref x, v1, v2] st h = zev xs L 5 23 [.ref x, v1, v2] (.ref x :: st) h := zq_aln (by decide +kernel : decode (zco 5) 22 = .ok (.aload_n 0, 1)) rfl
theorem q5_23 {x : Int32} : zev xs L 5 23 [v0, .int x, v2] st h = zev xs L 5 24 [v0, .int x, v2] (.int x :: st) h := zq_iln (by decide +kernel : decode (zco 5) 23 = .ok (.iload_n 1, 1)) rfl
theorem q5_24 {x : Int32} : zev xs L 5 24 [v0, .int x, v2] st h = zev xs L 5 25 [v0, .int x, v2] (.int x :: st) h := zq_iln (by decide +kernel : decode (zco 5) 24 = .ok (.iload_n 1, 1)) rfl
theorem q5_25 {a : Nat} {x0 : Int32} {x1 : Int32} {r1 : Value} (ht : ztag h a = some 0) : zev xs L 5 25 ls [.int x1, .int x0, .ref a, r1] h = (zev xs L 4 0 [.ref a, .int x0, .int x1] [] h).bind (fun q => zev xs L 5 28 ls (q.1.toList ++ [r1]) q.2) := zq_call (av := [.ref a, .int x0, .int x1]) (rest := [r1]) (n := 3) (k := 3) (J := []) (i := .invokevirtual 71) (by decide +kernel : decode (zco 5) 25 = .ok (.invokevirtual 71, 3)) rfl (by decide +kernel) (by decide +kernel) (Nat.le_of_ble_eq_true rfl) rfl rfl rfl rfl (Or.inr (Or.inr ⟨_, _, rfl, Or.inr (Or.inr ⟨rfl, ht⟩)⟩))
theorem q5_28 {x y : Int32} : zev xs L 5 28 ls (.int y :: .int x :: st) h = if y < x then zev xs L 5 31 ls st h else zev xs L 5 50 ls st h := (zq_ic2 (by decide +kernel : decode (zco 5) 28 = .ok (.if_icmp .le 22, 3)) (by decide +kernel)).trans (zdge)
theorem q5_31 {x : Nat} : zev xs L 5 31 [.ref x, v1, v2] st h = zev xs L 5 32 [.ref x, v1, v2] (.ref x :: st) h := zq_aln (by decide +kernel : decode (zco 5) 31 = .ok (.aload_n 0, 1)) rfl
theorem q5_32 {x : Int32} : zev xs L 5 32 [v0, v1, .int x] st h = zev xs L 5 33 [v0, v1, .int x] (.int x :: st) h := zq_iln (by decide +kernel : decode (zco 5) 32 = .ok (.iload_n 2, 1)) rfl
theorem q5_33 {x : Int32} : zev xs L 5 33 [v0, .int x, v2] st h = zev xs L 5 34 [v0, .int x, v2] (.int x :: st) h := zq_iln (by decide +kernel : decode (zco 5) 33 = .ok (.iload_n 1, 1)) rfl
theorem q5_34 {a : Nat} {x0 : Int32} {x1 : Int32} (ht : ztag h a = some 0) : zev xs L 5 34 ls [.int x1, .int x0, .ref a] h = (zev xs L 4 0 [.ref a, .int x0, .int x1] [] h).bind (fun q => zev xs L 5 37 ls (q.1.toList ++ []) q.2) := zq_call (av := [.ref a, .int x0, .int x1]) (rest := []) (n := 3) (k := 3) (J := []) (i := .invokevirtual 71) (by decide +kernel : decode (zco 5) 34 = .ok (.invokevirtual 71, 3)) rfl (by decide +kernel) (by decide +kernel) (Nat.le_of_ble_eq_true rfl) rfl rfl rfl rfl (Or.inr (Or.inr ⟨_, _, rfl, Or.inr (Or.inr ⟨rfl, ht⟩)⟩))
theorem q5_37 {x : Nat} : zev xs L 5 37 [.ref x, v1, v2] st h = zev xs L 5 38 [.ref x, v1, v2] (.ref x :: st) h := zq_aln (by decide +kernel : decode (zco 5) 37 = .ok (.aload_n 0, 1)) rfl
theorem q5_38 {x : Int32} : zev xs L 5 38 [v0, v1, .int x] st h = zev xs L 5 39 [v0, v1, .int x] (.int x :: st) h := zq_iln (by decide +kernel : decode (zco 5) 38 = .ok (.iload_n 2, 1)) rfl
theorem q5_39 {x : Int32} : zev xs L 5 39 [v0, v1, .int x] st h = zev xs L 5 40 [v0, v1, .int x] (.int x :: st) h := zq_iln (by decide +kernel : decode (zco 5) 39 = .ok (.iload_n 2, 1)) rfl
theorem q5_40 {a : Nat} {x0 : Int32} {x1 : Int32} {r1 : Value} (ht : ztag h a = some 0) : zev xs L 5 40 ls [.int x1, .int x0, .ref a, r1] h = (zev xs L 4 0 [.ref a, .int x0, .int x1] [] h).bind (fun q => zev xs L 5 43 ls (q.1.toList ++ [r1]) q.2) := zq_call (av := [.ref a, .int x0, .int x1]) (rest := [r1]) (n := 3) (k := 3) (J := []) (i := .invokevirtual 71) (by decide +kernel : decode (zco 5) 40 = .ok (.invokevirtual 71, 3)) rfl (by decide +kernel) (by decide +kernel) (Nat.le_of_ble_eq_true rfl) rfl rfl rfl rfl (Or.inr (Or.inr ⟨_, _, rfl, Or.inr (Or.inr ⟨rfl, ht⟩)⟩))
theorem q5_43 {x y : Int32} : zev xs L 5 43 ls (.int y :: .int x :: st) h = if y < x then zev xs L 5 46 ls st h else zev xs L 5 50 ls st h := (zq_ic2 (by decide +kernel : decode (zco 5) 43 = .ok (.if_icmp .le 7, 3)) (by decide +kernel)).trans (zdge)
theorem q5_46 : zev xs L 5 46 ls st h = zev xs L 5 47 ls (.int (nI 1) :: st) h := zq_ic (by decide +kernel : decode (zco 5) 46 = .ok (.iconst 1, 1)) rfl
theorem q5_47 : zev xs L 5 47 ls st h = zev xs L 5 51 ls st h := zq_go (by decide +kernel : decode (zco 5) 47 = .ok (.goto 4, 3)) (by decide +kernel)
theorem q5_50 : zev xs L 5 50 ls st h = zev xs L 5 51 ls (.int (nI 0) :: st) h := zq_ic (by decide +kernel : decode (zco 5) 50 = .ok (.iconst 0, 1)) rfl
theorem q5_51 {x : Int32} : zev xs L 5 51 ls [.int x] h = if zbk x = true then some (some (.int x), h) else none := zq_rzi (by decide +kernel : decode (zco 5) 51 = .ok (.ireturn, 1)) (by decide +kernel)
end
/- X0_howManyLiked -/
section
variable {xs : Nat → Int32} {L : Nat} {ls st : List Value} {h : ZH} {v0 v1 v2 v3 : Value} 
theorem q6_0 : zev xs L 6 0 ls st h = zev xs L 6 1 ls (.int (nI 0) :: st) h := zq_ic (by decide +kernel : decode (zco 6) 0 = .ok (.iconst 0, 1)) rfl
theorem q6_1 {x : Int32} : zev xs L 6 1 [v0, v1, v2, v3] (.int x :: st) h = zev xs L 6 2 [v0, .int x, v2, v3] st h := zq_isn (by decide +kernel : decode (zco 6) 1 = .ok (.istore_n 1, 1)) (by decide +kernel) rfl
theorem q6_2 : zev xs L 6 2 ls st h = zev xs L 6 3 ls (.int (nI 0) :: st) h := zq_ic (by decide +kernel : decode (zco 6) 2 = .ok (.iconst 0, 1)) rfl
theorem q6_3 {x : Int32} : zev xs L 6 3 [v0, v1, v2, v3] (.int x :: st) h = zev xs L 6 4 [v0, v1, .int x, v3] st h := zq_isn (by decide +kernel : decode (zco 6) 3 = .ok (.istore_n 2, 1)) (by decide +kernel) rfl
theorem q6_4 {x : Int32} : zev xs L 6 4 [v0, v1, .int x, v3] st h = zev xs L 6 5 [v0, v1, .int x, v3] (.int x :: st) h := zq_iln (by decide +kernel : decode (zco 6) 4 = .ok (.iload_n 2, 1)) rfl
theorem q6_5 {x : Nat} : zev xs L 6 5 [.ref x, v1, v2, v3] st h = zev xs L 6 6 [.ref x, v1, v2, v3] (.ref x :: st) h := zq_aln (by decide +kernel : decode (zco 6) 5 = .ok (.aload_n 0, 1)) rfl
theorem q6_6 {a : Nat} : zev xs L 6 6 ls (.ref a :: st) h = (zget h a 0 5).bind (fun v => zev xs L 6 9 ls (v :: st) h) := zq_gf (by decide +kernel : decode (zco 6) 6 = .ok (.getfield 39, 3)) (by decide +kernel)
theorem q6_9 {x y : Int32} : zev xs L 6 9 ls (.int y :: .int x :: st) h = if x < y then zev xs L 6 12 ls st h else zev xs L 6 53 ls st h := (zq_ic2 (by decide +kernel : decode (zco 6) 9 = .ok (.if_icmp .ge 44, 3)) (by decide +kernel)).trans (zdge)
theorem q6_12 {x : Int32} : zev xs L 6 12 [v0, v1, .int x, v3] st h = zev xs L 6 13 [v0, v1, .int x, v3] (.int x :: st) h := zq_iln (by decide +kernel : decode (zco 6) 12 = .ok (.iload_n 2, 1)) rfl
theorem q6_13 : zev xs L 6 13 ls st h = zev xs L 6 14 ls (.int (nI 1) :: st) h := zq_ic (by decide +kernel : decode (zco 6) 13 = .ok (.iconst 1, 1)) rfl
theorem q6_14 {x y : Int32} : zev xs L 6 14 ls (.int y :: .int x :: st) h = zev xs L 6 15 ls (.int (x + y) :: st) h := zq_iadd (by decide +kernel : decode (zco 6) 14 = .ok (.iadd, 1))
theorem q6_15 {x : Int32} : zev xs L 6 15 [v0, v1, v2, v3] (.int x :: st) h = zev xs L 6 16 [v0, v1, v2, .int x] st h := zq_isn (by decide +kernel : decode (zco 6) 15 = .ok (.istore_n 3, 1)) (by decide +kernel) rfl
theorem q6_16 {x : Int32} : zev xs L 6 16 [v0, v1, v2, .int x] st h = zev xs L 6 17 [v0, v1, v2, .int x] (.int x :: st) h := zq_iln (by decide +kernel : decode (zco 6) 16 = .ok (.iload_n 3, 1)) rfl
theorem q6_17 {x : Nat} : zev xs L 6 17 [.ref x, v1, v2, v3] st h = zev xs L 6 18 [.ref x, v1, v2, v3] (.ref x :: st) h := zq_aln (by decide +kernel : decode (zco 6) 17 = .ok (.aload_n 0, 1)) rfl
theorem q6_18 {a : Nat} : zev xs L 6 18 ls (.ref a :: st) h = (zget h a 0 5).bind (fun v => zev xs L 6 21 ls (v :: st) h) := zq_gf (by decide +kernel : decode (zco 6) 18 = .ok (.getfield 39, 3)) (by decide +kernel)
theorem q6_21 {x y : Int32} : zev xs L 6 21 ls (.int y :: .int x :: st) h = if x < y then zev xs L 6 24 ls st h else zev xs L 6 47 ls st h := (zq_ic2 (by decide +kernel : decode (zco 6) 21 = .ok (.if_icmp .ge 26, 3)) (by decide +kernel)).trans (zdge)
theorem q6_24 {x : Int32} : zev xs L 6 24 [v0, .int x, v2, v3] st h = zev xs L 6 25 [v0, .int x, v2, v3] (.int x :: st) h := zq_iln (by decide +kernel : decode (zco 6) 24 = .ok (.iload_n 1, 1)) rfl
theorem q6_25 {x : Nat} : zev xs L 6 25 [.ref x, v1, v2, v3] st h = zev xs L 6 26 [.ref x, v1, v2, v3] (.ref x :: st) h := zq_aln (by decide +kernel : decode (zco 6) 25 = .ok (.aload_n 0, 1)) rfl
theorem q6_26 {x : Int32} : zev xs L 6 26 [v0, v1, .int x, v3] st h = zev xs L 6 27 [v0, v1, .int x, v3] (.int x :: st) h := zq_iln (by decide +kernel : decode (zco 6) 26 = .ok (.iload_n 2, 1)) rfl
theorem q6_27 {x : Int32} : zev xs L 6 27 [v0, v1, v2, .int x] st h = zev xs L 6 28 [v0, v1, v2, .int x] (.int x :: st) h := zq_iln (by decide +kernel : decode (zco 6) 27 = .ok (.iload_n 3, 1)) rfl
theorem q6_28 {a : Nat} {x0 : Int32} {x1 : Int32} {r1 : Value} (ht : ztag h a = some 0) : zev xs L 6 28 ls [.int x1, .int x0, .ref a, r1] h = (zev xs L 5 0 [.ref a, .int x0, .int x1] [] h).bind (fun q => zev xs L 6 31 ls (q.1.toList ++ [r1]) q.2) := zq_call (av := [.ref a, .int x0, .int x1]) (rest := [r1]) (n := 3) (k := 3) (J := []) (i := .invokevirtual 74) (by decide +kernel : decode (zco 6) 28 = .ok (.invokevirtual 74, 3)) rfl (by decide +kernel) (by decide +kernel) (Nat.le_of_ble_eq_true rfl) rfl rfl rfl rfl (Or.inr (Or.inr ⟨_, _, rfl, Or.inr (Or.inr ⟨rfl, ht⟩)⟩))
theorem q6_31 {x : Int32} : zev xs L 6 31 ls (.int x :: st) h = if x = 0 then zev xs L 6 38 ls st h else zev xs L 6 34 ls st h := (zq_if (by decide +kernel : decode (zco 6) 31 = .ok (.ifCond .eq 7, 3)) (by decide +kernel)).trans (zdec rfl)
theorem q6_34 : zev xs L 6 34 ls st h = zev xs L 6 35 ls (.int (nI 1) :: st) h := zq_ic (by decide +kernel : decode (zco 6) 34 = .ok (.iconst 1, 1)) rfl
theorem q6_35 : zev xs L 6 35 ls st h = zev xs L 6 39 ls st h := zq_go (by decide +kernel : decode (zco 6) 35 = .ok (.goto 4, 3)) (by decide +kernel)
theorem q6_38 : zev xs L 6 38 ls st h = zev xs L 6 39 ls (.int (nI 0) :: st) h := zq_ic (by decide +kernel : decode (zco 6) 38 = .ok (.iconst 0, 1)) rfl
theorem q6_39 {x y : Int32} : zev xs L 6 39 ls (.int y :: .int x :: st) h = zev xs L 6 40 ls (.int (x + y) :: st) h := zq_iadd (by decide +kernel : decode (zco 6) 39 = .ok (.iadd, 1))
theorem q6_40 {x : Int32} : zev xs L 6 40 [v0, v1, v2, v3] (.int x :: st) h = zev xs L 6 41 [v0, .int x, v2, v3] st h := zq_isn (by decide +kernel : decode (zco 6) 40 = .ok (.istore_n 1, 1)) (by decide +kernel) rfl
theorem q6_41 {x : Int32} : zev xs L 6 41 [v0, v1, v2, .int x] st h = zev xs L 6 44 [v0, v1, v2, .int (x + nI 1)] st h := zq_inc (by decide +kernel : decode (zco 6) 41 = .ok (.iinc 3 1, 3)) rfl (by decide +kernel) (zn_1 x) rfl
theorem q6_44 : zev xs L 6 44 ls st h = zev xs L 6 16 ls st h := zq_go (by decide +kernel : decode (zco 6) 44 = .ok (.goto (-28), 3)) (by decide +kernel)
theorem q6_47 {x : Int32} : zev xs L 6 47 [v0, v1, .int x, v3] st h = zev xs L 6 50 [v0, v1, .int (x + nI 1), v3] st h := zq_inc (by decide +kernel : decode (zco 6) 47 = .ok (.iinc 2 1, 3)) rfl (by decide +kernel) (zn_1 x) rfl
theorem q6_50 : zev xs L 6 50 ls st h = zev xs L 6 4 ls st h := zq_go (by decide +kernel : decode (zco 6) 50 = .ok (.goto (-46), 3)) (by decide +kernel)
theorem q6_53 {x : Int32} : zev xs L 6 53 [v0, .int x, v2, v3] st h = zev xs L 6 54 [v0, .int x, v2, v3] (.int x :: st) h := zq_iln (by decide +kernel : decode (zco 6) 53 = .ok (.iload_n 1, 1)) rfl
theorem q6_54 {x : Int32} : zev xs L 6 54 ls [.int x] h = some (some (.int x), h) := zq_ri (by decide +kernel : decode (zco 6) 54 = .ok (.ireturn, 1)) (by decide +kernel)
end
/- X0_firstLiked -/
section
variable {xs : Nat → Int32} {L : Nat} {ls st : List Value} {h : ZH} {v0 v1 v2 : Value} 
theorem q7_0 : zev xs L 7 0 ls st h = zev xs L 7 1 ls (.int (nI 0) :: st) h := zq_ic (by decide +kernel : decode (zco 7) 0 = .ok (.iconst 0, 1)) rfl
theorem q7_1 {x : Int32} : zev xs L 7 1 [v0, v1, v2] (.int x :: st) h = zev xs L 7 2 [v0, .int x, v2] st h := zq_isn (by decide +kernel : decode (zco 7) 1 = .ok (.istore_n 1, 1)) (by decide +kernel) rfl
theorem q7_2 {x : Int32} : zev xs L 7 2 [v0, .int x, v2] st h = zev xs L 7 3 [v0, .int x, v2] (.int x :: st) h := zq_iln (by decide +kernel : decode (zco 7) 2 = .ok (.iload_n 1, 1)) rfl
theorem q7_3 {x : Nat} : zev xs L 7 3 [.ref x, v1, v2] st h = zev xs L 7 4 [.ref x, v1, v2] (.ref x :: st) h := zq_aln (by decide +kernel : decode (zco 7) 3 = .ok (.aload_n 0, 1)) rfl
theorem q7_4 {a : Nat} : zev xs L 7 4 ls (.ref a :: st) h = (zget h a 0 5).bind (fun v => zev xs L 7 7 ls (v :: st) h) := zq_gf (by decide +kernel : decode (zco 7) 4 = .ok (.getfield 39, 3)) (by decide +kernel)
theorem q7_7 {x y : Int32} : zev xs L 7 7 ls (.int y :: .int x :: st) h = if x < y then zev xs L 7 10 ls st h else zev xs L 7 50 ls st h := (zq_ic2 (by decide +kernel : decode (zco 7) 7 = .ok (.if_icmp .ge 43, 3)) (by decide +kernel)).trans (zdge)
theorem q7_10 {x : Int32} : zev xs L 7 10 [v0, .int x, v2] st h = zev xs L 7 11 [v0, .int x, v2] (.int x :: st) h := zq_iln (by decide +kernel : decode (zco 7) 10 = .ok (.iload_n 1, 1)) rfl
theorem q7_11 : zev xs L 7 11 ls st h = zev xs L 7 12 ls (.int (nI 1) :: st) h := zq_ic (by decide +kernel : decode (zco 7) 11 = .ok (.iconst 1, 1)) rfl
theorem q7_12 {x y : Int32} : zev xs L 7 12 ls (.int y :: .int x :: st) h = zev xs L 7 13 ls (.int (x + y) :: st) h := zq_iadd (by decide +kernel : decode (zco 7) 12 = .ok (.iadd, 1))
theorem q7_13 {x : Int32} : zev xs L 7 13 [v0, v1, v2] (.int x :: st) h = zev xs L 7 14 [v0, v1, .int x] st h := zq_isn (by decide +kernel : decode (zco 7) 13 = .ok (.istore_n 2, 1)) (by decide +kernel) rfl
theorem q7_14 {x : Int32} : zev xs L 7 14 [v0, v1, .int x] st h = zev xs L 7 15 [v0, v1, .int x] (.int x :: st) h := zq_iln (by decide +kernel : decode (zco 7) 14 = .ok (.iload_n 2, 1)) rfl
theorem q7_15 {x : Nat} : zev xs L 7 15 [.ref x, v1, v2] st h = zev xs L 7 16 [.ref x, v1, v2] (.ref x :: st) h := zq_aln (by decide +kernel : decode (zco 7) 15 = .ok (.aload_n 0, 1)) rfl
theorem q7_16 {a : Nat} : zev xs L 7 16 ls (.ref a :: st) h = (zget h a 0 5).bind (fun v => zev xs L 7 19 ls (v :: st) h) := zq_gf (by decide +kernel : decode (zco 7) 16 = .ok (.getfield 39, 3)) (by decide +kernel)
theorem q7_19 {x y : Int32} : zev xs L 7 19 ls (.int y :: .int x :: st) h = if x < y then zev xs L 7 22 ls st h else zev xs L 7 44 ls st h := (zq_ic2 (by decide +kernel : decode (zco 7) 19 = .ok (.if_icmp .ge 25, 3)) (by decide +kernel)).trans (zdge)
theorem q7_22 {x : Nat} : zev xs L 7 22 [.ref x, v1, v2] st h = zev xs L 7 23 [.ref x, v1, v2] (.ref x :: st) h := zq_aln (by decide +kernel : decode (zco 7) 22 = .ok (.aload_n 0, 1)) rfl
theorem q7_23 {x : Int32} : zev xs L 7 23 [v0, .int x, v2] st h = zev xs L 7 24 [v0, .int x, v2] (.int x :: st) h := zq_iln (by decide +kernel : decode (zco 7) 23 = .ok (.iload_n 1, 1)) rfl
theorem q7_24 {x : Int32} : zev xs L 7 24 [v0, v1, .int x] st h = zev xs L 7 25 [v0, v1, .int x] (.int x :: st) h := zq_iln (by decide +kernel : decode (zco 7) 24 = .ok (.iload_n 2, 1)) rfl
theorem q7_25 {a : Nat} {x0 : Int32} {x1 : Int32} (ht : ztag h a = some 0) : zev xs L 7 25 ls [.int x1, .int x0, .ref a] h = (zev xs L 5 0 [.ref a, .int x0, .int x1] [] h).bind (fun q => zev xs L 7 28 ls (q.1.toList ++ []) q.2) := zq_call (av := [.ref a, .int x0, .int x1]) (rest := []) (n := 3) (k := 3) (J := []) (i := .invokevirtual 74) (by decide +kernel : decode (zco 7) 25 = .ok (.invokevirtual 74, 3)) rfl (by decide +kernel) (by decide +kernel) (Nat.le_of_ble_eq_true rfl) rfl rfl rfl rfl (Or.inr (Or.inr ⟨_, _, rfl, Or.inr (Or.inr ⟨rfl, ht⟩)⟩))
theorem q7_28 {x : Int32} : zev xs L 7 28 ls (.int x :: st) h = if x = 0 then zev xs L 7 38 ls st h else zev xs L 7 31 ls st h := (zq_if (by decide +kernel : decode (zco 7) 28 = .ok (.ifCond .eq 10, 3)) (by decide +kernel)).trans (zdec rfl)
theorem q7_31 : zev xs L 7 31 ls st h = zev xs L 7 33 ls (.int (nI 10) :: st) h := zq_bi (by decide +kernel : decode (zco 7) 31 = .ok (.bipush 10, 2)) rfl
theorem q7_33 {x : Int32} : zev xs L 7 33 [v0, .int x, v2] st h = zev xs L 7 34 [v0, .int x, v2] (.int x :: st) h := zq_iln (by decide +kernel : decode (zco 7) 33 = .ok (.iload_n 1, 1)) rfl
theorem q7_34 {x y : Int32} : zev xs L 7 34 ls (.int y :: .int x :: st) h = zev xs L 7 35 ls (.int (x * y) :: st) h := zq_imul (by decide +kernel : decode (zco 7) 34 = .ok (.imul, 1))
theorem q7_35 {x : Int32} : zev xs L 7 35 [v0, v1, .int x] st h = zev xs L 7 36 [v0, v1, .int x] (.int x :: st) h := zq_iln (by decide +kernel : decode (zco 7) 35 = .ok (.iload_n 2, 1)) rfl
theorem q7_36 {x y : Int32} : zev xs L 7 36 ls (.int y :: .int x :: st) h = zev xs L 7 37 ls (.int (x + y) :: st) h := zq_iadd (by decide +kernel : decode (zco 7) 36 = .ok (.iadd, 1))
theorem q7_37 {x : Int32} : zev xs L 7 37 ls [.int x] h = some (some (.int x), h) := zq_ri (by decide +kernel : decode (zco 7) 37 = .ok (.ireturn, 1)) (by decide +kernel)
theorem q7_38 {x : Int32} : zev xs L 7 38 [v0, v1, .int x] st h = zev xs L 7 41 [v0, v1, .int (x + nI 1)] st h := zq_inc (by decide +kernel : decode (zco 7) 38 = .ok (.iinc 2 1, 3)) rfl (by decide +kernel) (zn_1 x) rfl
theorem q7_41 : zev xs L 7 41 ls st h = zev xs L 7 14 ls st h := zq_go (by decide +kernel : decode (zco 7) 41 = .ok (.goto (-27), 3)) (by decide +kernel)
theorem q7_44 {x : Int32} : zev xs L 7 44 [v0, .int x, v2] st h = zev xs L 7 47 [v0, .int (x + nI 1), v2] st h := zq_inc (by decide +kernel : decode (zco 7) 44 = .ok (.iinc 1 1, 3)) rfl (by decide +kernel) (zn_1 x) rfl
theorem q7_47 : zev xs L 7 47 ls st h = zev xs L 7 2 ls st h := zq_go (by decide +kernel : decode (zco 7) 47 = .ok (.goto (-45), 3)) (by decide +kernel)
theorem q7_50 : zev xs L 7 50 ls st h = zev xs L 7 52 ls (.int ((-4)) :: st) h := zq_bi (by decide +kernel : decode (zco 7) 50 = .ok (.bipush (-4), 2)) rfl
theorem q7_52 {x : Int32} : zev xs L 7 52 ls [.int x] h = some (some (.int x), h) := zq_ri (by decide +kernel : decode (zco 7) 52 = .ok (.ireturn, 1)) (by decide +kernel)
end
/- X0_changeAllLiked -/
section
variable {xs : Nat → Int32} {L : Nat} {ls st : List Value} {h : ZH} {v0 v1 v2 : Value} 
theorem q8_0 : zev xs L 8 0 ls st h = zev xs L 8 1 ls (.int (nI 0) :: st) h := zq_ic (by decide +kernel : decode (zco 8) 0 = .ok (.iconst 0, 1)) rfl
theorem q8_1 {x : Int32} : zev xs L 8 1 [v0, v1, v2] (.int x :: st) h = zev xs L 8 2 [v0, .int x, v2] st h := zq_isn (by decide +kernel : decode (zco 8) 1 = .ok (.istore_n 1, 1)) (by decide +kernel) rfl
theorem q8_2 {x : Int32} : zev xs L 8 2 [v0, .int x, v2] st h = zev xs L 8 3 [v0, .int x, v2] (.int x :: st) h := zq_iln (by decide +kernel : decode (zco 8) 2 = .ok (.iload_n 1, 1)) rfl
theorem q8_3 : zev xs L 8 3 ls st h = zev xs L 8 5 ls (.int (nI 54) :: st) h := zq_bi (by decide +kernel : decode (zco 8) 3 = .ok (.bipush 54, 2)) rfl
theorem q8_5 {x y : Int32} : zev xs L 8 5 ls (.int y :: .int x :: st) h = if y < x then zev xs L 8 42 ls st h else zev xs L 8 8 ls st h := (zq_ic2 (by decide +kernel : decode (zco 8) 5 = .ok (.if_icmp .gt 37, 3)) (by decide +kernel)).trans (zdec rfl)
theorem q8_8 {x : Nat} : zev xs L 8 8 [.ref x, v1, v2] st h = zev xs L 8 9 [.ref x, v1, v2] (.ref x :: st) h := zq_aln (by decide +kernel : decode (zco 8) 8 = .ok (.aload_n 0, 1)) rfl
theorem q8_9 {a : Nat} (ht : ztag h a = some 0) : zev xs L 8 9 ls [.ref a] h = (zev xs L 7 0 [.ref a, .null, .null] [] h).bind (fun q => zev xs L 8 12 ls (q.1.toList ++ []) q.2) := zq_call (av := [.ref a]) (rest := []) (n := 1) (k := 3) (J := []) (i := .invokevirtual 77) (by decide +kernel : decode (zco 8) 9 = .ok (.invokevirtual 77, 3)) rfl (by decide +kernel) (by decide +kernel) (Nat.le_of_ble_eq_true rfl) rfl rfl rfl rfl (Or.inr (Or.inr ⟨_, _, rfl, Or.inr (Or.inr ⟨rfl, ht⟩)⟩))
theorem q8_12 {x : Int32} : zev xs L 8 12 [v0, v1, v2] (.int x :: st) h = zev xs L 8 13 [v0, v1, .int x] st h := zq_isn (by decide +kernel : decode (zco 8) 12 = .ok (.istore_n 2, 1)) (by decide +kernel) rfl
theorem q8_13 {x : Int32} : zev xs L 8 13 [v0, v1, .int x] st h = zev xs L 8 14 [v0, v1, .int x] (.int x :: st) h := zq_iln (by decide +kernel : decode (zco 8) 13 = .ok (.iload_n 2, 1)) rfl
theorem q8_14 : zev xs L 8 14 ls st h = zev xs L 8 16 ls (.int ((-4)) :: st) h := zq_bi (by decide +kernel : decode (zco 8) 14 = .ok (.bipush (-4), 2)) rfl
theorem q8_16 {x y : Int32} : zev xs L 8 16 ls (.int y :: .int x :: st) h = if x = y then zev xs L 8 19 ls st h else zev xs L 8 21 ls st h := (zq_ic2 (by decide +kernel : decode (zco 8) 16 = .ok (.if_icmp .ne 5, 3)) (by decide +kernel)).trans (zdecn rfl)
theorem q8_19 {x : Int32} : zev xs L 8 19 [v0, .int x, v2] st h = zev xs L 8 20 [v0, .int x, v2] (.int x :: st) h := zq_iln (by decide +kernel : decode (zco 8) 19 = .ok (.iload_n 1, 1)) rfl
theorem q8_20 {x : Int32} : zev xs L 8 20 ls [.int x] h = some (some (.int x), h) := zq_ri (by decide +kernel : decode (zco 8) 20 = .ok (.ireturn, 1)) (by decide +kernel)
theorem q8_21 {x : Nat} : zev xs L 8 21 [.ref x, v1, v2] st h = zev xs L 8 22 [.ref x, v1, v2] (.ref x :: st) h := zq_aln (by decide +kernel : decode (zco 8) 21 = .ok (.aload_n 0, 1)) rfl
theorem q8_22 {a : Nat} : zev xs L 8 22 ls (.ref a :: st) h = (zget h a 0 0).bind (fun v => zev xs L 8 25 ls (v :: st) h) := zq_gf (by decide +kernel : decode (zco 8) 22 = .ok (.getfield 9, 3)) (by decide +kernel)
theorem q8_25 {x : Int32} : zev xs L 8 25 [v0, v1, .int x] st h = zev xs L 8 26 [v0, v1, .int x] (.int x :: st) h := zq_iln (by decide +kernel : decode (zco 8) 25 = .ok (.iload_n 2, 1)) rfl
theorem q8_26 : zev xs L 8 26 ls st h = zev xs L 8 28 ls (.int (nI 10) :: st) h := zq_bi (by decide +kernel : decode (zco 8) 26 = .ok (.bipush 10, 2)) rfl
theorem q8_28 {x y : Int32} : zev xs L 8 28 ls (.int y :: .int x :: st) h = if y = 0 then none else zev xs L 8 29 ls (.int (x / y) :: st) h := zq_idv (by decide +kernel : decode (zco 8) 28 = .ok (.idiv, 1))
theorem q8_29 {x : Int32} : zev xs L 8 29 [v0, v1, .int x] st h = zev xs L 8 30 [v0, v1, .int x] (.int x :: st) h := zq_iln (by decide +kernel : decode (zco 8) 29 = .ok (.iload_n 2, 1)) rfl
theorem q8_30 : zev xs L 8 30 ls st h = zev xs L 8 32 ls (.int (nI 10) :: st) h := zq_bi (by decide +kernel : decode (zco 8) 30 = .ok (.bipush 10, 2)) rfl
theorem q8_32 {x y : Int32} : zev xs L 8 32 ls (.int y :: .int x :: st) h = if y = 0 then none else zev xs L 8 33 ls (.int (x - x / y * y) :: st) h := zq_irm (by decide +kernel : decode (zco 8) 32 = .ok (.irem, 1))
theorem q8_33 {x0 : Nat} {x1 : Int32} {x2 : Int32} : zev xs L 8 33 ls [.int x2, .int x1, .ref x0] h = (zev xs L 99 0 [.ref x0, .int x1, .int x2, .null] [] h).bind (fun q => zev xs L 8 36 ls (q.1.toList ++ []) q.2) := zq_call (av := [.ref x0, .int x1, .int x2]) (rest := []) (n := 3) (k := 4) (J := []) (i := .invokestatic 81) (by decide +kernel : decode (zco 8) 33 = .ok (.invokestatic 81, 3)) rfl (by decide +kernel) (by decide +kernel) (Nat.le_of_ble_eq_true rfl) rfl rfl rfl rfl (Or.inr (Or.inl rfl))
theorem q8_36 {x : Int32} : zev xs L 8 36 [v0, .int x, v2] st h = zev xs L 8 39 [v0, .int (x + nI 1), v2] st h := zq_inc (by decide +kernel : decode (zco 8) 36 = .ok (.iinc 1 1, 3)) rfl (by decide +kernel) (zn_1 x) rfl
theorem q8_39 : zev xs L 8 39 ls st h = zev xs L 8 2 ls st h := zq_go (by decide +kernel : decode (zco 8) 39 = .ok (.goto (-37), 3)) (by decide +kernel)
theorem q8_42 : zev xs L 8 42 ls st h = zev xs L 8 44 ls (.int (nI 54) :: st) h := zq_bi (by decide +kernel : decode (zco 8) 42 = .ok (.bipush 54, 2)) rfl
theorem q8_44 {x : Int32} : zev xs L 8 44 ls [.int x] h = some (some (.int x), h) := zq_ri (by decide +kernel : decode (zco 8) 44 = .ok (.ireturn, 1)) (by decide +kernel)
end
/- X0_goRound -/
section
variable {xs : Nat → Int32} {L : Nat} {ls st : List Value} {h : ZH} {v0 v1 v2 v3 : Value} 
theorem q9_0 : zev xs L 9 0 ls st h = zev xs L 9 1 ls (.int (nI 1) :: st) h := zq_ic (by decide +kernel : decode (zco 9) 0 = .ok (.iconst 1, 1)) rfl
theorem q9_1 {x : Nat} : zev xs L 9 1 [.ref x, v1, v2, v3] st h = zev xs L 9 2 [.ref x, v1, v2, v3] (.ref x :: st) h := zq_aln (by decide +kernel : decode (zco 9) 1 = .ok (.aload_n 0, 1)) rfl
theorem q9_2 {a : Nat} : zev xs L 9 2 ls (.ref a :: st) h = (zget h a 0 5).bind (fun v => zev xs L 9 5 ls (v :: st) h) := zq_gf (by decide +kernel : decode (zco 9) 2 = .ok (.getfield 39, 3)) (by decide +kernel)
theorem q9_5 {x y : Int32} : zev xs L 9 5 ls (.int y :: .int x :: st) h = zev xs L 9 6 ls (.int (x <<< (y &&& 31)) :: st) h := zq_ishl (by decide +kernel : decode (zco 9) 5 = .ok (.ishl, 1))
theorem q9_6 : zev xs L 9 6 ls st h = zev xs L 9 7 ls (.int (nI 1) :: st) h := zq_ic (by decide +kernel : decode (zco 9) 6 = .ok (.iconst 1, 1)) rfl
theorem q9_7 {x y : Int32} : zev xs L 9 7 ls (.int y :: .int x :: st) h = zev xs L 9 8 ls (.int (x - y) :: st) h := zq_isub (by decide +kernel : decode (zco 9) 7 = .ok (.isub, 1))
theorem q9_8 {x : Int32} : zev xs L 9 8 [v0, v1, v2, v3] (.int x :: st) h = zev xs L 9 9 [v0, .int x, v2, v3] st h := zq_isn (by decide +kernel : decode (zco 9) 8 = .ok (.istore_n 1, 1)) (by decide +kernel) rfl
theorem q9_9 : zev xs L 9 9 ls st h = zev xs L 9 10 ls (.int (nI 0) :: st) h := zq_ic (by decide +kernel : decode (zco 9) 9 = .ok (.iconst 0, 1)) rfl
theorem q9_10 {x : Int32} : zev xs L 9 10 [v0, v1, v2, v3] (.int x :: st) h = zev xs L 9 11 [v0, v1, .int x, v3] st h := zq_isn (by decide +kernel : decode (zco 9) 10 = .ok (.istore_n 2, 1)) (by decide +kernel) rfl
theorem q9_11 {x : Int32} : zev xs L 9 11 [v0, v1, .int x, v3] st h = zev xs L 9 12 [v0, v1, .int x, v3] (.int x :: st) h := zq_iln (by decide +kernel : decode (zco 9) 11 = .ok (.iload_n 2, 1)) rfl
theorem q9_12 {x : Nat} : zev xs L 9 12 [.ref x, v1, v2, v3] st h = zev xs L 9 13 [.ref x, v1, v2, v3] (.ref x :: st) h := zq_aln (by decide +kernel : decode (zco 9) 12 = .ok (.aload_n 0, 1)) rfl
theorem q9_13 {a : Nat} : zev xs L 9 13 ls (.ref a :: st) h = (zget h a 0 5).bind (fun v => zev xs L 9 16 ls (v :: st) h) := zq_gf (by decide +kernel : decode (zco 9) 13 = .ok (.getfield 39, 3)) (by decide +kernel)
theorem q9_16 {x y : Int32} : zev xs L 9 16 ls (.int y :: .int x :: st) h = if x < y then zev xs L 9 19 ls st h else zev xs L 9 63 ls st h := (zq_ic2 (by decide +kernel : decode (zco 9) 16 = .ok (.if_icmp .ge 47, 3)) (by decide +kernel)).trans (zdge)
theorem q9_19 {x : Int32} : zev xs L 9 19 [v0, .int x, v2, v3] st h = zev xs L 9 20 [v0, .int x, v2, v3] (.int x :: st) h := zq_iln (by decide +kernel : decode (zco 9) 19 = .ok (.iload_n 1, 1)) rfl
theorem q9_20 {x : Int32} : zev xs L 9 20 ls (.int x :: st) h = if x = 0 then zev xs L 9 63 ls st h else zev xs L 9 23 ls st h := (zq_if (by decide +kernel : decode (zco 9) 20 = .ok (.ifCond .eq 43, 3)) (by decide +kernel)).trans (zdec rfl)
theorem q9_23 : zev xs L 9 23 ls st h = zev xs L 9 24 ls (.int (nI 0) :: st) h := zq_ic (by decide +kernel : decode (zco 9) 23 = .ok (.iconst 0, 1)) rfl
theorem q9_24 {x : Int32} : zev xs L 9 24 [v0, v1, v2, v3] (.int x :: st) h = zev xs L 9 25 [v0, v1, v2, .int x] st h := zq_isn (by decide +kernel : decode (zco 9) 24 = .ok (.istore_n 3, 1)) (by decide +kernel) rfl
theorem q9_25 {x : Int32} : zev xs L 9 25 [v0, v1, v2, .int x] st h = zev xs L 9 26 [v0, v1, v2, .int x] (.int x :: st) h := zq_iln (by decide +kernel : decode (zco 9) 25 = .ok (.iload_n 3, 1)) rfl
theorem q9_26 {x : Nat} : zev xs L 9 26 [.ref x, v1, v2, v3] st h = zev xs L 9 27 [.ref x, v1, v2, v3] (.ref x :: st) h := zq_aln (by decide +kernel : decode (zco 9) 26 = .ok (.aload_n 0, 1)) rfl
theorem q9_27 {a : Nat} : zev xs L 9 27 ls (.ref a :: st) h = (zget h a 0 5).bind (fun v => zev xs L 9 30 ls (v :: st) h) := zq_gf (by decide +kernel : decode (zco 9) 27 = .ok (.getfield 39, 3)) (by decide +kernel)
theorem q9_30 {x y : Int32} : zev xs L 9 30 ls (.int y :: .int x :: st) h = if x < y then zev xs L 9 33 ls st h else zev xs L 9 51 ls st h := (zq_ic2 (by decide +kernel : decode (zco 9) 30 = .ok (.if_icmp .ge 21, 3)) (by decide +kernel)).trans (zdge)
theorem q9_33 {x : Nat} : zev xs L 9 33 [.ref x, v1, v2, v3] st h = zev xs L 9 34 [.ref x, v1, v2, v3] (.ref x :: st) h := zq_aln (by decide +kernel : decode (zco 9) 33 = .ok (.aload_n 0, 1)) rfl
theorem q9_34 {a : Nat} : zev xs L 9 34 ls (.ref a :: st) h = (zget h a 0 3).bind (fun v => zev xs L 9 37 ls (v :: st) h) := zq_gf (by decide +kernel : decode (zco 9) 34 = .ok (.getfield 21, 3)) (by decide +kernel)
theorem q9_37 {x : Int32} : zev xs L 9 37 [v0, v1, v2, .int x] st h = zev xs L 9 38 [v0, v1, v2, .int x] (.int x :: st) h := zq_iln (by decide +kernel : decode (zco 9) 37 = .ok (.iload_n 3, 1)) rfl
theorem q9_38 {x : Nat} : zev xs L 9 38 [.ref x, v1, v2, v3] st h = zev xs L 9 39 [.ref x, v1, v2, v3] (.ref x :: st) h := zq_aln (by decide +kernel : decode (zco 9) 38 = .ok (.aload_n 0, 1)) rfl
theorem q9_39 {x : Int32} : zev xs L 9 39 [v0, .int x, v2, v3] st h = zev xs L 9 40 [v0, .int x, v2, v3] (.int x :: st) h := zq_iln (by decide +kernel : decode (zco 9) 39 = .ok (.iload_n 1, 1)) rfl
theorem q9_40 {x : Int32} : zev xs L 9 40 [v0, v1, v2, .int x] st h = zev xs L 9 41 [v0, v1, v2, .int x] (.int x :: st) h := zq_iln (by decide +kernel : decode (zco 9) 40 = .ok (.iload_n 3, 1)) rfl
theorem q9_41 {a : Nat} {x0 : Int32} {x1 : Int32} {r1 r2 : Value} (ht : ztag h a = some 0) : zev xs L 9 41 ls [.int x1, .int x0, .ref a, r1, r2] h = (zev xs L 10 0 [.ref a, .int x0, .int x1, .null, .null] [] h).bind (fun q => zev xs L 9 44 ls (q.1.toList ++ [r1, r2]) q.2) := zq_call (av := [.ref a, .int x0, .int x1]) (rest := [r1, r2]) (n := 3) (k := 5) (J := []) (i := .invokevirtual 85) (by decide +kernel : decode (zco 9) 41 = .ok (.invokevirtual 85, 3)) rfl (by decide +kernel) (by decide +kernel) (Nat.le_of_ble_eq_true rfl) rfl rfl rfl rfl (Or.inr (Or.inr ⟨_, _, rfl, Or.inr (Or.inr ⟨rfl, ht⟩)⟩))
theorem q9_44 {x y : Int32} {a : Nat} : zev xs L 9 44 ls (.int y :: .int x :: .ref a :: st) h = (zast h 20 a x (.int y)).bind (fun h => zev xs L 9 45 ls st h) := zq_ias (by decide +kernel : decode (zco 9) 44 = .ok (.iastore, 1))
theorem q9_45 {x : Int32} : zev xs L 9 45 [v0, v1, v2, .int x] st h = zev xs L 9 48 [v0, v1, v2, .int (x + nI 1)] st h := zq_inc (by decide +kernel : decode (zco 9) 45 = .ok (.iinc 3 1, 3)) rfl (by decide +kernel) (zn_1 x) rfl
theorem q9_48 : zev xs L 9 48 ls st h = zev xs L 9 25 ls st h := zq_go (by decide +kernel : decode (zco 9) 48 = .ok (.goto (-23), 3)) (by decide +kernel)
theorem q9_51 {x : Nat} : zev xs L 9 51 [.ref x, v1, v2, v3] st h = zev xs L 9 52 [.ref x, v1, v2, v3] (.ref x :: st) h := zq_aln (by decide +kernel : decode (zco 9) 51 = .ok (.aload_n 0, 1)) rfl
theorem q9_52 {x : Int32} : zev xs L 9 52 [v0, .int x, v2, v3] st h = zev xs L 9 53 [v0, .int x, v2, v3] (.int x :: st) h := zq_iln (by decide +kernel : decode (zco 9) 52 = .ok (.iload_n 1, 1)) rfl
theorem q9_53 {a : Nat} {x0 : Int32} (ht : ztag h a = some 0) : zev xs L 9 53 ls [.int x0, .ref a] h = (zev xs L 11 0 [.ref a, .int x0, .null, .null] [] h).bind (fun q => zev xs L 9 56 ls (q.1.toList ++ []) q.2) := zq_call (av := [.ref a, .int x0]) (rest := []) (n := 2) (k := 4) (J := []) (i := .invokevirtual 88) (by decide +kernel : decode (zco 9) 53 = .ok (.invokevirtual 88, 3)) rfl (by decide +kernel) (by decide +kernel) (Nat.le_of_ble_eq_true rfl) rfl rfl rfl rfl (Or.inr (Or.inr ⟨_, _, rfl, Or.inr (Or.inr ⟨rfl, ht⟩)⟩))
theorem q9_56 {x : Int32} : zev xs L 9 56 [v0, v1, v2, v3] (.int x :: st) h = zev xs L 9 57 [v0, .int x, v2, v3] st h := zq_isn (by decide +kernel : decode (zco 9) 56 = .ok (.istore_n 1, 1)) (by decide +kernel) rfl
theorem q9_57 {x : Int32} : zev xs L 9 57 [v0, v1, .int x, v3] st h = zev xs L 9 60 [v0, v1, .int (x + nI 1), v3] st h := zq_inc (by decide +kernel : decode (zco 9) 57 = .ok (.iinc 2 1, 3)) rfl (by decide +kernel) (zn_1 x) rfl
theorem q9_60 : zev xs L 9 60 ls st h = zev xs L 9 11 ls st h := zq_go (by decide +kernel : decode (zco 9) 60 = .ok (.goto (-49), 3)) (by decide +kernel)
theorem q9_63 : zev xs L 9 63 ls [] h = some (none, h) := zq_rv (by decide +kernel : decode (zco 9) 63 = .ok (.return_, 1)) (by decide +kernel)
end
/- X0_bestOf -/
section
variable {xs : Nat → Int32} {L : Nat} {ls st : List Value} {h : ZH} {v0 v1 v2 v3 v4 : Value} 
theorem q10_0 {x : Int32} : zev xs L 10 0 [v0, v1, .int x, v3, v4] st h = zev xs L 10 1 [v0, v1, .int x, v3, v4] (.int x :: st) h := zq_iln (by decide +kernel : decode (zco 10) 0 = .ok (.iload_n 2, 1)) rfl
theorem q10_1 {x : Int32} : zev xs L 10 1 [v0, v1, v2, v3, v4] (.int x :: st) h = zev xs L 10 2 [v0, v1, v2, .int x, v4] st h := zq_isn (by decide +kernel : decode (zco 10) 1 = .ok (.istore_n 3, 1)) (by decide +kernel) rfl
theorem q10_2 : zev xs L 10 2 ls st h = zev xs L 10 3 ls (.int (nI 0) :: st) h := zq_ic (by decide +kernel : decode (zco 10) 2 = .ok (.iconst 0, 1)) rfl
theorem q10_3 {x : Int32} : zev xs L 10 3 [v0, v1, v2, v3, v4] (.int x :: st) h = zev xs L 10 5 [v0, v1, v2, v3, .int x] st h := zq_is (by decide +kernel : decode (zco 10) 3 = .ok (.istore 4, 2)) (by decide +kernel) rfl
theorem q10_5 {x : Int32} : zev xs L 10 5 [v0, v1, v2, v3, .int x] st h = zev xs L 10 7 [v0, v1, v2, v3, .int x] (.int x :: st) h := zq_il (by decide +kernel : decode (zco 10) 5 = .ok (.iload 4, 2)) rfl
theorem q10_7 {x : Nat} : zev xs L 10 7 [.ref x, v1, v2, v3, v4] st h = zev xs L 10 8 [.ref x, v1, v2, v3, v4] (.ref x :: st) h := zq_aln (by decide +kernel : decode (zco 10) 7 = .ok (.aload_n 0, 1)) rfl
theorem q10_8 {a : Nat} : zev xs L 10 8 ls (.ref a :: st) h = (zget h a 0 5).bind (fun v => zev xs L 10 11 ls (v :: st) h) := zq_gf (by decide +kernel : decode (zco 10) 8 = .ok (.getfield 39, 3)) (by decide +kernel)
theorem q10_11 {x y : Int32} : zev xs L 10 11 ls (.int y :: .int x :: st) h = if x < y then zev xs L 10 14 ls st h else zev xs L 10 65 ls st h := (zq_ic2 (by decide +kernel : decode (zco 10) 11 = .ok (.if_icmp .ge 54, 3)) (by decide +kernel)).trans (zdge)
theorem q10_14 {x : Nat} : zev xs L 10 14 [.ref x, v1, v2, v3, v4] st h = zev xs L 10 15 [.ref x, v1, v2, v3, v4] (.ref x :: st) h := zq_aln (by decide +kernel : decode (zco 10) 14 = .ok (.aload_n 0, 1)) rfl
theorem q10_15 {x : Int32} : zev xs L 10 15 [v0, v1, .int x, v3, v4] st h = zev xs L 10 16 [v0, v1, .int x, v3, v4] (.int x :: st) h := zq_iln (by decide +kernel : decode (zco 10) 15 = .ok (.iload_n 2, 1)) rfl
theorem q10_16 {a : Nat} {x0 : Int32} (ht : ztag h a = some 0) : zev xs L 10 16 ls [.int x0, .ref a] h = (zev xs L 3 0 [.ref a, .int x0] [] h).bind (fun q => zev xs L 10 19 ls (q.1.toList ++ []) q.2) := zq_call (av := [.ref a, .int x0]) (rest := []) (n := 2) (k := 2) (J := []) (i := .invokevirtual 67) (by decide +kernel : decode (zco 10) 16 = .ok (.invokevirtual 67, 3)) rfl (by decide +kernel) (by decide +kernel) (Nat.le_of_ble_eq_true rfl) rfl rfl rfl rfl (Or.inr (Or.inr ⟨_, _, rfl, Or.inr (Or.inr ⟨rfl, ht⟩)⟩))
theorem q10_19 {x : Int32} : zev xs L 10 19 ls (.int x :: st) h = if x = 0 then zev xs L 10 65 ls st h else zev xs L 10 22 ls st h := (zq_if (by decide +kernel : decode (zco 10) 19 = .ok (.ifCond .eq 46, 3)) (by decide +kernel)).trans (zdec rfl)
theorem q10_22 {x : Int32} : zev xs L 10 22 [v0, .int x, v2, v3, v4] st h = zev xs L 10 23 [v0, .int x, v2, v3, v4] (.int x :: st) h := zq_iln (by decide +kernel : decode (zco 10) 22 = .ok (.iload_n 1, 1)) rfl
theorem q10_23 {x : Int32} : zev xs L 10 23 [v0, v1, v2, v3, .int x] st h = zev xs L 10 25 [v0, v1, v2, v3, .int x] (.int x :: st) h := zq_il (by decide +kernel : decode (zco 10) 23 = .ok (.iload 4, 2)) rfl
theorem q10_25 {x0 : Int32} {x1 : Int32} : zev xs L 10 25 ls [.int x1, .int x0] h = (zev xs L 97 0 [.int x0, .int x1] [] h).bind (fun q => zev xs L 10 28 ls (q.1.toList ++ []) q.2) := zq_call (av := [.int x0, .int x1]) (rest := []) (n := 2) (k := 2) (J := []) (i := .invokestatic 63) (by decide +kernel : decode (zco 10) 25 = .ok (.invokestatic 63, 3)) rfl (by decide +kernel) (by decide +kernel) (Nat.le_of_ble_eq_true rfl) rfl rfl rfl rfl (Or.inr (Or.inl rfl))
theorem q10_28 {x : Int32} : zev xs L 10 28 ls (.int x :: st) h = if x = 0 then zev xs L 10 59 ls st h else zev xs L 10 31 ls st h := (zq_if (by decide +kernel : decode (zco 10) 28 = .ok (.ifCond .eq 31, 3)) (by decide +kernel)).trans (zdec rfl)
theorem q10_31 {x : Nat} : zev xs L 10 31 [.ref x, v1, v2, v3, v4] st h = zev xs L 10 32 [.ref x, v1, v2, v3, v4] (.ref x :: st) h := zq_aln (by decide +kernel : decode (zco 10) 31 = .ok (.aload_n 0, 1)) rfl
theorem q10_32 {x : Int32} : zev xs L 10 32 [v0, v1, v2, v3, .int x] st h = zev xs L 10 34 [v0, v1, v2, v3, .int x] (.int x :: st) h := zq_il (by decide +kernel : decode (zco 10) 32 = .ok (.iload 4, 2)) rfl
theorem q10_34 {a : Nat} {x0 : Int32} (ht : ztag h a = some 0) : zev xs L 10 34 ls [.int x0, .ref a] h = (zev xs L 3 0 [.ref a, .int x0] [] h).bind (fun q => zev xs L 10 37 ls (q.1.toList ++ []) q.2) := zq_call (av := [.ref a, .int x0]) (rest := []) (n := 2) (k := 2) (J := []) (i := .invokevirtual 67) (by decide +kernel : decode (zco 10) 34 = .ok (.invokevirtual 67, 3)) rfl (by decide +kernel) (by decide +kernel) (Nat.le_of_ble_eq_true rfl) rfl rfl rfl rfl (Or.inr (Or.inr ⟨_, _, rfl, Or.inr (Or.inr ⟨rfl, ht⟩)⟩))
theorem q10_37 {x : Int32} : zev xs L 10 37 ls (.int x :: st) h = if x = 0 then zev xs L 10 59 ls st h else zev xs L 10 40 ls st h := (zq_if (by decide +kernel : decode (zco 10) 37 = .ok (.ifCond .eq 22, 3)) (by decide +kernel)).trans (zdec rfl)
theorem q10_40 {x : Nat} : zev xs L 10 40 [.ref x, v1, v2, v3, v4] st h = zev xs L 10 41 [.ref x, v1, v2, v3, v4] (.ref x :: st) h := zq_aln (by decide +kernel : decode (zco 10) 40 = .ok (.aload_n 0, 1)) rfl
theorem q10_41 {x : Int32} : zev xs L 10 41 [v0, v1, .int x, v3, v4] st h = zev xs L 10 42 [v0, v1, .int x, v3, v4] (.int x :: st) h := zq_iln (by decide +kernel : decode (zco 10) 41 = .ok (.iload_n 2, 1)) rfl
theorem q10_42 {x : Int32} : zev xs L 10 42 [v0, v1, v2, v3, .int x] st h = zev xs L 10 44 [v0, v1, v2, v3, .int x] (.int x :: st) h := zq_il (by decide +kernel : decode (zco 10) 42 = .ok (.iload 4, 2)) rfl
theorem q10_44 {a : Nat} {x0 : Int32} {x1 : Int32} (ht : ztag h a = some 0) : zev xs L 10 44 ls [.int x1, .int x0, .ref a] h = (zev xs L 4 0 [.ref a, .int x0, .int x1] [] h).bind (fun q => zev xs L 10 47 ls (q.1.toList ++ []) q.2) := zq_call (av := [.ref a, .int x0, .int x1]) (rest := []) (n := 3) (k := 3) (J := []) (i := .invokevirtual 71) (by decide +kernel : decode (zco 10) 44 = .ok (.invokevirtual 71, 3)) rfl (by decide +kernel) (by decide +kernel) (Nat.le_of_ble_eq_true rfl) rfl rfl rfl rfl (Or.inr (Or.inr ⟨_, _, rfl, Or.inr (Or.inr ⟨rfl, ht⟩)⟩))
theorem q10_47 {x : Nat} : zev xs L 10 47 [.ref x, v1, v2, v3, v4] st h = zev xs L 10 48 [.ref x, v1, v2, v3, v4] (.ref x :: st) h := zq_aln (by decide +kernel : decode (zco 10) 47 = .ok (.aload_n 0, 1)) rfl
theorem q10_48 {x : Int32} : zev xs L 10 48 [v0, v1, .int x, v3, v4] st h = zev xs L 10 49 [v0, v1, .int x, v3, v4] (.int x :: st) h := zq_iln (by decide +kernel : decode (zco 10) 48 = .ok (.iload_n 2, 1)) rfl
theorem q10_49 {x : Int32} : zev xs L 10 49 [v0, v1, v2, .int x, v4] st h = zev xs L 10 50 [v0, v1, v2, .int x, v4] (.int x :: st) h := zq_iln (by decide +kernel : decode (zco 10) 49 = .ok (.iload_n 3, 1)) rfl
theorem q10_50 {a : Nat} {x0 : Int32} {x1 : Int32} {r1 : Value} (ht : ztag h a = some 0) : zev xs L 10 50 ls [.int x1, .int x0, .ref a, r1] h = (zev xs L 4 0 [.ref a, .int x0, .int x1] [] h).bind (fun q => zev xs L 10 53 ls (q.1.toList ++ [r1]) q.2) := zq_call (av := [.ref a, .int x0, .int x1]) (rest := [r1]) (n := 3) (k := 3) (J := []) (i := .invokevirtual 71) (by decide +kernel : decode (zco 10) 50 = .ok (.invokevirtual 71, 3)) rfl (by decide +kernel) (by decide +kernel) (Nat.le_of_ble_eq_true rfl) rfl rfl rfl rfl (Or.inr (Or.inr ⟨_, _, rfl, Or.inr (Or.inr ⟨rfl, ht⟩)⟩))
theorem q10_53 {x y : Int32} : zev xs L 10 53 ls (.int y :: .int x :: st) h = if y < x then zev xs L 10 56 ls st h else zev xs L 10 59 ls st h := (zq_ic2 (by decide +kernel : decode (zco 10) 53 = .ok (.if_icmp .le 6, 3)) (by decide +kernel)).trans (zdge)
theorem q10_56 {x : Int32} : zev xs L 10 56 [v0, v1, v2, v3, .int x] st h = zev xs L 10 58 [v0, v1, v2, v3, .int x] (.int x :: st) h := zq_il (by decide +kernel : decode (zco 10) 56 = .ok (.iload 4, 2)) rfl
theorem q10_58 {x : Int32} : zev xs L 10 58 [v0, v1, v2, v3, v4] (.int x :: st) h = zev xs L 10 59 [v0, v1, v2, .int x, v4] st h := zq_isn (by decide +kernel : decode (zco 10) 58 = .ok (.istore_n 3, 1)) (by decide +kernel) rfl
theorem q10_59 {x : Int32} : zev xs L 10 59 [v0, v1, v2, v3, .int x] st h = zev xs L 10 62 [v0, v1, v2, v3, .int (x + nI 1)] st h := zq_inc (by decide +kernel : decode (zco 10) 59 = .ok (.iinc 4 1, 3)) rfl (by decide +kernel) (zn_1 x) rfl
theorem q10_62 : zev xs L 10 62 ls st h = zev xs L 10 5 ls st h := zq_go (by decide +kernel : decode (zco 10) 62 = .ok (.goto (-57), 3)) (by decide +kernel)
theorem q10_65 {x : Int32} : zev xs L 10 65 [v0, v1, v2, .int x, v4] st h = zev xs L 10 66 [v0, v1, v2, .int x, v4] (.int x :: st) h := zq_iln (by decide +kernel : decode (zco 10) 65 = .ok (.iload_n 3, 1)) rfl
theorem q10_66 {x : Int32} : zev xs L 10 66 ls [.int x] h = some (some (.int x), h) := zq_ri (by decide +kernel : decode (zco 10) 66 = .ok (.ireturn, 1)) (by decide +kernel)
end
/- X0_leaveInRings -/
section
variable {xs : Nat → Int32} {L : Nat} {ls st : List Value} {h : ZH} {v0 v1 v2 v3 : Value} 
theorem q11_0 {x : Int32} : zev xs L 11 0 [v0, .int x, v2, v3] st h = zev xs L 11 1 [v0, .int x, v2, v3] (.int x :: st) h := zq_iln (by decide +kernel : decode (zco 11) 0 = .ok (.iload_n 1, 1)) rfl
theorem q11_1 {x : Int32} : zev xs L 11 1 [v0, v1, v2, v3] (.int x :: st) h = zev xs L 11 2 [v0, v1, .int x, v3] st h := zq_isn (by decide +kernel : decode (zco 11) 1 = .ok (.istore_n 2, 1)) (by decide +kernel) rfl
theorem q11_2 : zev xs L 11 2 ls st h = zev xs L 11 3 ls (.int (nI 0) :: st) h := zq_ic (by decide +kernel : decode (zco 11) 2 = .ok (.iconst 0, 1)) rfl
theorem q11_3 {x : Int32} : zev xs L 11 3 [v0, v1, v2, v3] (.int x :: st) h = zev xs L 11 4 [v0, v1, v2, .int x] st h := zq_isn (by decide +kernel : decode (zco 11) 3 = .ok (.istore_n 3, 1)) (by decide +kernel) rfl
theorem q11_4 {x : Int32} : zev xs L 11 4 [v0, v1, v2, .int x] st h = zev xs L 11 5 [v0, v1, v2, .int x] (.int x :: st) h := zq_iln (by decide +kernel : decode (zco 11) 4 = .ok (.iload_n 3, 1)) rfl
theorem q11_5 {x : Nat} : zev xs L 11 5 [.ref x, v1, v2, v3] st h = zev xs L 11 6 [.ref x, v1, v2, v3] (.ref x :: st) h := zq_aln (by decide +kernel : decode (zco 11) 5 = .ok (.aload_n 0, 1)) rfl
theorem q11_6 {a : Nat} : zev xs L 11 6 ls (.ref a :: st) h = (zget h a 0 5).bind (fun v => zev xs L 11 9 ls (v :: st) h) := zq_gf (by decide +kernel : decode (zco 11) 6 = .ok (.getfield 39, 3)) (by decide +kernel)
theorem q11_9 {x y : Int32} : zev xs L 11 9 ls (.int y :: .int x :: st) h = if x < y then zev xs L 11 12 ls st h else zev xs L 11 61 ls st h := (zq_ic2 (by decide +kernel : decode (zco 11) 9 = .ok (.if_icmp .ge 52, 3)) (by decide +kernel)).trans (zdge)
theorem q11_12 {x : Int32} : zev xs L 11 12 [v0, .int x, v2, v3] st h = zev xs L 11 13 [v0, .int x, v2, v3] (.int x :: st) h := zq_iln (by decide +kernel : decode (zco 11) 12 = .ok (.iload_n 1, 1)) rfl
theorem q11_13 {x : Int32} : zev xs L 11 13 [v0, v1, v2, .int x] st h = zev xs L 11 14 [v0, v1, v2, .int x] (.int x :: st) h := zq_iln (by decide +kernel : decode (zco 11) 13 = .ok (.iload_n 3, 1)) rfl
theorem q11_14 {x0 : Int32} {x1 : Int32} : zev xs L 11 14 ls [.int x1, .int x0] h = (zev xs L 97 0 [.int x0, .int x1] [] h).bind (fun q => zev xs L 11 17 ls (q.1.toList ++ []) q.2) := zq_call (av := [.int x0, .int x1]) (rest := []) (n := 2) (k := 2) (J := []) (i := .invokestatic 63) (by decide +kernel : decode (zco 11) 14 = .ok (.invokestatic 63, 3)) rfl (by decide +kernel) (by decide +kernel) (Nat.le_of_ble_eq_true rfl) rfl rfl rfl rfl (Or.inr (Or.inl rfl))
theorem q11_17 {x : Int32} : zev xs L 11 17 ls (.int x :: st) h = if x = 0 then zev xs L 11 55 ls st h else zev xs L 11 20 ls st h := (zq_if (by decide +kernel : decode (zco 11) 17 = .ok (.ifCond .eq 38, 3)) (by decide +kernel)).trans (zdec rfl)
theorem q11_20 {x : Nat} : zev xs L 11 20 [.ref x, v1, v2, v3] st h = zev xs L 11 21 [.ref x, v1, v2, v3] (.ref x :: st) h := zq_aln (by decide +kernel : decode (zco 11) 20 = .ok (.aload_n 0, 1)) rfl
theorem q11_21 {x : Int32} : zev xs L 11 21 [v0, v1, v2, .int x] st h = zev xs L 11 22 [v0, v1, v2, .int x] (.int x :: st) h := zq_iln (by decide +kernel : decode (zco 11) 21 = .ok (.iload_n 3, 1)) rfl
theorem q11_22 {a : Nat} {x0 : Int32} (ht : ztag h a = some 0) : zev xs L 11 22 ls [.int x0, .ref a] h = (zev xs L 12 0 [.ref a, .int x0, .null, .null] [] h).bind (fun q => zev xs L 11 25 ls (q.1.toList ++ []) q.2) := zq_call (av := [.ref a, .int x0]) (rest := []) (n := 2) (k := 4) (J := []) (i := .invokevirtual 91) (by decide +kernel : decode (zco 11) 22 = .ok (.invokevirtual 91, 3)) rfl (by decide +kernel) (by decide +kernel) (Nat.le_of_ble_eq_true rfl) rfl rfl rfl rfl (Or.inr (Or.inr ⟨_, _, rfl, Or.inr (Or.inr ⟨rfl, ht⟩)⟩))
theorem q11_25 {x : Int32} : zev xs L 11 25 ls (.int x :: st) h = if x = 0 then zev xs L 11 55 ls st h else zev xs L 11 28 ls st h := (zq_if (by decide +kernel : decode (zco 11) 25 = .ok (.ifCond .eq 30, 3)) (by decide +kernel)).trans (zdec rfl)
theorem q11_28 {x : Nat} : zev xs L 11 28 [.ref x, v1, v2, v3] st h = zev xs L 11 29 [.ref x, v1, v2, v3] (.ref x :: st) h := zq_aln (by decide +kernel : decode (zco 11) 28 = .ok (.aload_n 0, 1)) rfl
theorem q11_29 {a : Nat} : zev xs L 11 29 ls (.ref a :: st) h = (zget h a 0 4).bind (fun v => zev xs L 11 32 ls (v :: st) h) := zq_gf (by decide +kernel : decode (zco 11) 29 = .ok (.getfield 24, 3)) (by decide +kernel)
theorem q11_32 {x : Int32} : zev xs L 11 32 [v0, v1, v2, .int x] st h = zev xs L 11 33 [v0, v1, v2, .int x] (.int x :: st) h := zq_iln (by decide +kernel : decode (zco 11) 32 = .ok (.iload_n 3, 1)) rfl
theorem q11_33 {x : Nat} : zev xs L 11 33 [.ref x, v1, v2, v3] st h = zev xs L 11 34 [.ref x, v1, v2, v3] (.ref x :: st) h := zq_aln (by decide +kernel : decode (zco 11) 33 = .ok (.aload_n 0, 1)) rfl
theorem q11_34 {a : Nat} : zev xs L 11 34 ls (.ref a :: st) h = (zget h a 0 0).bind (fun v => zev xs L 11 37 ls (v :: st) h) := zq_gf (by decide +kernel : decode (zco 11) 34 = .ok (.getfield 9, 3)) (by decide +kernel)
theorem q11_37 {x : Nat} : zev xs L 11 37 [.ref x, v1, v2, v3] st h = zev xs L 11 38 [.ref x, v1, v2, v3] (.ref x :: st) h := zq_aln (by decide +kernel : decode (zco 11) 37 = .ok (.aload_n 0, 1)) rfl
theorem q11_38 {a : Nat} : zev xs L 11 38 ls (.ref a :: st) h = (zget h a 0 3).bind (fun v => zev xs L 11 41 ls (v :: st) h) := zq_gf (by decide +kernel : decode (zco 11) 38 = .ok (.getfield 21, 3)) (by decide +kernel)
theorem q11_41 {x : Int32} : zev xs L 11 41 [v0, v1, v2, .int x] st h = zev xs L 11 42 [v0, v1, v2, .int x] (.int x :: st) h := zq_iln (by decide +kernel : decode (zco 11) 41 = .ok (.iload_n 3, 1)) rfl
theorem q11_42 {x : Int32} {a : Nat} : zev xs L 11 42 ls (.int x :: .ref a :: st) h = (zaldI h 20 a x).bind (fun x => zev xs L 11 43 ls (.int x :: st) h) := zq_ia (by decide +kernel : decode (zco 11) 42 = .ok (.iaload, 1))
theorem q11_43 {x0 : Nat} {x1 : Int32} {r1 r2 : Value} : zev xs L 11 43 ls [.int x1, .ref x0, r1, r2] h = (zev xs L 98 0 [.ref x0, .int x1] [] h).bind (fun q => zev xs L 11 46 ls (q.1.toList ++ [r1, r2]) q.2) := zq_call (av := [.ref x0, .int x1]) (rest := [r1, r2]) (n := 2) (k := 2) (J := []) (i := .invokestatic 55) (by decide +kernel : decode (zco 11) 43 = .ok (.invokestatic 55, 3)) rfl (by decide +kernel) (by decide +kernel) (Nat.le_of_ble_eq_true rfl) rfl rfl rfl rfl (Or.inr (Or.inl rfl))
theorem q11_46 {x y : Int32} {a : Nat} : zev xs L 11 46 ls (.int y :: .int x :: .ref a :: st) h = (zast h 20 a x (.int y)).bind (fun h => zev xs L 11 47 ls st h) := zq_ias (by decide +kernel : decode (zco 11) 46 = .ok (.iastore, 1))
theorem q11_47 {x : Int32} : zev xs L 11 47 [v0, v1, .int x, v3] st h = zev xs L 11 48 [v0, v1, .int x, v3] (.int x :: st) h := zq_iln (by decide +kernel : decode (zco 11) 47 = .ok (.iload_n 2, 1)) rfl
theorem q11_48 : zev xs L 11 48 ls st h = zev xs L 11 49 ls (.int (nI 1) :: st) h := zq_ic (by decide +kernel : decode (zco 11) 48 = .ok (.iconst 1, 1)) rfl
theorem q11_49 {x : Int32} : zev xs L 11 49 [v0, v1, v2, .int x] st h = zev xs L 11 50 [v0, v1, v2, .int x] (.int x :: st) h := zq_iln (by decide +kernel : decode (zco 11) 49 = .ok (.iload_n 3, 1)) rfl
theorem q11_50 {x y : Int32} : zev xs L 11 50 ls (.int y :: .int x :: st) h = zev xs L 11 51 ls (.int (x <<< (y &&& 31)) :: st) h := zq_ishl (by decide +kernel : decode (zco 11) 50 = .ok (.ishl, 1))
theorem q11_51 : zev xs L 11 51 ls st h = zev xs L 11 52 ls (.int ((-1)) :: st) h := zq_ic (by decide +kernel : decode (zco 11) 51 = .ok (.iconst (-1), 1)) rfl
theorem q11_52 {x y : Int32} : zev xs L 11 52 ls (.int y :: .int x :: st) h = zev xs L 11 53 ls (.int (x ^^^ y) :: st) h := zq_ixor (by decide +kernel : decode (zco 11) 52 = .ok (.ixor, 1))
theorem q11_53 {x y : Int32} : zev xs L 11 53 ls (.int y :: .int x :: st) h = zev xs L 11 54 ls (.int (x &&& y) :: st) h := zq_iand (by decide +kernel : decode (zco 11) 53 = .ok (.iand, 1))
theorem q11_54 {x : Int32} : zev xs L 11 54 [v0, v1, v2, v3] (.int x :: st) h = zev xs L 11 55 [v0, v1, .int x, v3] st h := zq_isn (by decide +kernel : decode (zco 11) 54 = .ok (.istore_n 2, 1)) (by decide +kernel) rfl
theorem q11_55 {x : Int32} : zev xs L 11 55 [v0, v1, v2, .int x] st h = zev xs L 11 58 [v0, v1, v2, .int (x + nI 1)] st h := zq_inc (by decide +kernel : decode (zco 11) 55 = .ok (.iinc 3 1, 3)) rfl (by decide +kernel) (zn_1 x) rfl
theorem q11_58 : zev xs L 11 58 ls st h = zev xs L 11 4 ls st h := zq_go (by decide +kernel : decode (zco 11) 58 = .ok (.goto (-54), 3)) (by decide +kernel)
theorem q11_61 {x : Int32} : zev xs L 11 61 [v0, v1, .int x, v3] st h = zev xs L 11 62 [v0, v1, .int x, v3] (.int x :: st) h := zq_iln (by decide +kernel : decode (zco 11) 61 = .ok (.iload_n 2, 1)) rfl
theorem q11_62 {x : Int32} : zev xs L 11 62 ls [.int x] h = some (some (.int x), h) := zq_ri (by decide +kernel : decode (zco 11) 62 = .ok (.ireturn, 1)) (by decide +kernel)
end
/- X0_isInRing -/
section
variable {xs : Nat → Int32} {L : Nat} {ls st : List Value} {h : ZH} {v0 v1 v2 v3 : Value} 
theorem q12_0 {x : Nat} : zev xs L 12 0 [.ref x, v1, v2, v3] st h = zev xs L 12 1 [.ref x, v1, v2, v3] (.ref x :: st) h := zq_aln (by decide +kernel : decode (zco 12) 0 = .ok (.aload_n 0, 1)) rfl
theorem q12_1 {a : Nat} : zev xs L 12 1 ls (.ref a :: st) h = (zget h a 0 3).bind (fun v => zev xs L 12 4 ls (v :: st) h) := zq_gf (by decide +kernel : decode (zco 12) 1 = .ok (.getfield 21, 3)) (by decide +kernel)
theorem q12_4 {x : Int32} : zev xs L 12 4 [v0, .int x, v2, v3] st h = zev xs L 12 5 [v0, .int x, v2, v3] (.int x :: st) h := zq_iln (by decide +kernel : decode (zco 12) 4 = .ok (.iload_n 1, 1)) rfl
theorem q12_5 {x0 : Nat} {x1 : Int32} : zev xs L 12 5 ls [.int x1, .ref x0] h = (zev xs L 98 0 [.ref x0, .int x1] [] h).bind (fun q => zev xs L 12 8 ls (q.1.toList ++ []) q.2) := zq_call (av := [.ref x0, .int x1]) (rest := []) (n := 2) (k := 2) (J := []) (i := .invokestatic 55) (by decide +kernel : decode (zco 12) 5 = .ok (.invokestatic 55, 3)) rfl (by decide +kernel) (by decide +kernel) (Nat.le_of_ble_eq_true rfl) rfl rfl rfl rfl (Or.inr (Or.inl rfl))
theorem q12_8 {x : Int32} : zev xs L 12 8 [v0, v1, v2, v3] (.int x :: st) h = zev xs L 12 9 [v0, v1, .int x, v3] st h := zq_isn (by decide +kernel : decode (zco 12) 8 = .ok (.istore_n 2, 1)) (by decide +kernel) rfl
theorem q12_9 : zev xs L 12 9 ls st h = zev xs L 12 10 ls (.int (nI 1) :: st) h := zq_ic (by decide +kernel : decode (zco 12) 9 = .ok (.iconst 1, 1)) rfl
theorem q12_10 {x : Int32} : zev xs L 12 10 [v0, v1, v2, v3] (.int x :: st) h = zev xs L 12 11 [v0, v1, v2, .int x] st h := zq_isn (by decide +kernel : decode (zco 12) 10 = .ok (.istore_n 3, 1)) (by decide +kernel) rfl
theorem q12_11 {x : Int32} : zev xs L 12 11 [v0, v1, v2, .int x] st h = zev xs L 12 12 [v0, v1, v2, .int x] (.int x :: st) h := zq_iln (by decide +kernel : decode (zco 12) 11 = .ok (.iload_n 3, 1)) rfl
theorem q12_12 {x : Nat} : zev xs L 12 12 [.ref x, v1, v2, v3] st h = zev xs L 12 13 [.ref x, v1, v2, v3] (.ref x :: st) h := zq_aln (by decide +kernel : decode (zco 12) 12 = .ok (.aload_n 0, 1)) rfl
theorem q12_13 {a : Nat} : zev xs L 12 13 ls (.ref a :: st) h = (zget h a 0 5).bind (fun v => zev xs L 12 16 ls (v :: st) h) := zq_gf (by decide +kernel : decode (zco 12) 13 = .ok (.getfield 39, 3)) (by decide +kernel)
theorem q12_16 {x y : Int32} : zev xs L 12 16 ls (.int y :: .int x :: st) h = if x < y then zev xs L 12 19 ls st h else zev xs L 12 39 ls st h := (zq_ic2 (by decide +kernel : decode (zco 12) 16 = .ok (.if_icmp .ge 23, 3)) (by decide +kernel)).trans (zdge)
theorem q12_19 {x : Int32} : zev xs L 12 19 [v0, v1, .int x, v3] st h = zev xs L 12 20 [v0, v1, .int x, v3] (.int x :: st) h := zq_iln (by decide +kernel : decode (zco 12) 19 = .ok (.iload_n 2, 1)) rfl
theorem q12_20 {x : Int32} : zev xs L 12 20 [v0, .int x, v2, v3] st h = zev xs L 12 21 [v0, .int x, v2, v3] (.int x :: st) h := zq_iln (by decide +kernel : decode (zco 12) 20 = .ok (.iload_n 1, 1)) rfl
theorem q12_21 {x y : Int32} : zev xs L 12 21 ls (.int y :: .int x :: st) h = if x = y then zev xs L 12 39 ls st h else zev xs L 12 24 ls st h := (zq_ic2 (by decide +kernel : decode (zco 12) 21 = .ok (.if_icmp .eq 18, 3)) (by decide +kernel)).trans (zdec rfl)
theorem q12_24 {x : Nat} : zev xs L 12 24 [.ref x, v1, v2, v3] st h = zev xs L 12 25 [.ref x, v1, v2, v3] (.ref x :: st) h := zq_aln (by decide +kernel : decode (zco 12) 24 = .ok (.aload_n 0, 1)) rfl
theorem q12_25 {a : Nat} : zev xs L 12 25 ls (.ref a :: st) h = (zget h a 0 3).bind (fun v => zev xs L 12 28 ls (v :: st) h) := zq_gf (by decide +kernel : decode (zco 12) 25 = .ok (.getfield 21, 3)) (by decide +kernel)
theorem q12_28 {x : Int32} : zev xs L 12 28 [v0, v1, .int x, v3] st h = zev xs L 12 29 [v0, v1, .int x, v3] (.int x :: st) h := zq_iln (by decide +kernel : decode (zco 12) 28 = .ok (.iload_n 2, 1)) rfl
theorem q12_29 {x0 : Nat} {x1 : Int32} : zev xs L 12 29 ls [.int x1, .ref x0] h = (zev xs L 98 0 [.ref x0, .int x1] [] h).bind (fun q => zev xs L 12 32 ls (q.1.toList ++ []) q.2) := zq_call (av := [.ref x0, .int x1]) (rest := []) (n := 2) (k := 2) (J := []) (i := .invokestatic 55) (by decide +kernel : decode (zco 12) 29 = .ok (.invokestatic 55, 3)) rfl (by decide +kernel) (by decide +kernel) (Nat.le_of_ble_eq_true rfl) rfl rfl rfl rfl (Or.inr (Or.inl rfl))
theorem q12_32 {x : Int32} : zev xs L 12 32 [v0, v1, v2, v3] (.int x :: st) h = zev xs L 12 33 [v0, v1, .int x, v3] st h := zq_isn (by decide +kernel : decode (zco 12) 32 = .ok (.istore_n 2, 1)) (by decide +kernel) rfl
theorem q12_33 {x : Int32} : zev xs L 12 33 [v0, v1, v2, .int x] st h = zev xs L 12 36 [v0, v1, v2, .int (x + nI 1)] st h := zq_inc (by decide +kernel : decode (zco 12) 33 = .ok (.iinc 3 1, 3)) rfl (by decide +kernel) (zn_1 x) rfl
theorem q12_36 : zev xs L 12 36 ls st h = zev xs L 12 11 ls st h := zq_go (by decide +kernel : decode (zco 12) 36 = .ok (.goto (-25), 3)) (by decide +kernel)
theorem q12_39 {x : Int32} : zev xs L 12 39 [v0, v1, .int x, v3] st h = zev xs L 12 40 [v0, v1, .int x, v3] (.int x :: st) h := zq_iln (by decide +kernel : decode (zco 12) 39 = .ok (.iload_n 2, 1)) rfl
theorem q12_40 {x : Int32} : zev xs L 12 40 [v0, .int x, v2, v3] st h = zev xs L 12 41 [v0, .int x, v2, v3] (.int x :: st) h := zq_iln (by decide +kernel : decode (zco 12) 40 = .ok (.iload_n 1, 1)) rfl
theorem q12_41 {x y : Int32} : zev xs L 12 41 ls (.int y :: .int x :: st) h = if x = y then zev xs L 12 44 ls st h else zev xs L 12 48 ls st h := (zq_ic2 (by decide +kernel : decode (zco 12) 41 = .ok (.if_icmp .ne 7, 3)) (by decide +kernel)).trans (zdecn rfl)
theorem q12_44 : zev xs L 12 44 ls st h = zev xs L 12 45 ls (.int (nI 1) :: st) h := zq_ic (by decide +kernel : decode (zco 12) 44 = .ok (.iconst 1, 1)) rfl
theorem q12_45 : zev xs L 12 45 ls st h = zev xs L 12 49 ls st h := zq_go (by decide +kernel : decode (zco 12) 45 = .ok (.goto 4, 3)) (by decide +kernel)
theorem q12_48 : zev xs L 12 48 ls st h = zev xs L 12 49 ls (.int (nI 0) :: st) h := zq_ic (by decide +kernel : decode (zco 12) 48 = .ok (.iconst 0, 1)) rfl
theorem q12_49 {x : Int32} : zev xs L 12 49 ls [.int x] h = if zbk x = true then some (some (.int x), h) else none := zq_rzi (by decide +kernel : decode (zco 12) 49 = .ok (.ireturn, 1)) (by decide +kernel)
end
