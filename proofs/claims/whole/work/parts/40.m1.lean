/-! ===== the reference: small methods ===== -/
/-- one page of the slots over another, the first k places -/
def zcp (sl : Nat → Nat) (a b k : Nat) : Nat → Nat := fun j => if 61 * b ≤ j ∧ j < 61 * b + k then sl (j - 61 * b + 61 * a) else sl j
theorem zcp_0 (sl : Nat → Nat) (a b : Nat) : zcp sl a b 0 = sl := by funext j; unfold zcp; rw [if_neg (by omega)]
theorem zcp_s {sl : Nat → Nat} {a b k : Nat} (hab : a ≠ b) (hk : k < 61) : va_up (zcp sl a b k) (61 * b + k) (zcp sl a b k (61 * a + k)) = zcp sl a b (k + 1) := by
  funext j
  unfold va_up zcp
  by_cases h1 : j = 61 * b + k
  · subst h1
    rw [if_pos rfl, if_neg (by omega), if_pos (by omega)]
    congr 1; omega
  · rw [if_neg h1]
    by_cases h2 : 61 * b ≤ j ∧ j < 61 * b + k
    · rw [if_pos h2, if_pos (by omega)]
    · rw [if_neg h2, if_neg (by omega)]
section
variable {xs : Nat → Int32} {L : Nat} {C h : ZH} {len at_ kep don see : Nat} {fit : Int32} {tx : Nat → Int32} {td ki kd pe sk wo sl sa wy be po mh : Nat → Nat} {go : Nat → Int32} 
theorem e_in {v lo hi : Int64} : zev xs L 102 0 [.long v, .null, .long lo, .null, .long hi, .null] [] h = some (some (.int (zb (lo ≤ v ∧ v ≤ hi))), h) := by
  simp only [q102_0, q102_1, q102_2, q102_3, q102_6, q102_7, q102_9, q102_10, q102_13, q102_14, q102_17, q102_18, zlg_lt, zlg_gt, if_true, if_false]
  by_cases h1 : v < lo
  · have h2 : ¬ (lo ≤ v ∧ v ≤ hi) := fun q => Int64.not_le.mpr h1 q.1
    simp only [h1, if_true, zb_f h2, zn_k0, if_true]
  · by_cases h3 : hi < v
    · have h2 : ¬ (lo ≤ v ∧ v ≤ hi) := fun q => Int64.not_le.mpr h3 q.2
      simp only [h1, h3, if_true, if_false, zb_f h2, zn_k0, if_true]
    · have h2 : lo ≤ v ∧ v ≤ hi := ⟨Int64.not_lt.mp h1, Int64.not_lt.mp h3⟩
      simp only [h1, h3, if_true, if_false, zb_t h2, zn_k1, if_true]
theorem zin_l {i : Int32} {n : Nat} (hn : 1 ≤ n) (hn2 : n < 2 ^ 31) : zb (lN 0 ≤ i.toInt64 ∧ i.toInt64 ≤ (nI (n - 1)).toInt64) = zb (zin i n) := by
  have e : (lN 0 ≤ i.toInt64 ∧ i.toInt64 ≤ (nI (n - 1)).toInt64) ↔ zin i n := by
    rw [nI_l (by omega), zl_le (by decide), zl_ge (by omega)]; unfold zin; omega
  unfold zb
  by_cases hh : zin i n
  · rw [if_pos hh, if_pos (e.mpr hh)]
  · rw [if_neg hh, if_neg (fun q => hh (e.mp q))]
theorem e_isMan (hC : C.length = 104) (hP : 1 ≤ pe 0 ∧ pe 0 ≤ 6) {i : Int32} : zev xs L 114 0 [.ref 104, .int i] [] (C ++ zM len at_ kep don see fit tx td ki kd pe sk wo sl sa wy be po mh go) = some (some (.int (zb (zin i (pe 0)))), C ++ zM len at_ kep don see fit tx td ki kd pe sk wo sl sa wy be po mh go) := by
  simp (disch := omega) only [q114_0, q114_1, q114_2, q114_3, q114_4, q114_7, q114_8, q114_9, q114_10, q114_11, q114_12, q114_15, e_in, mg_0, mg_1, mg_2, mg_3, mg_4, mg_5, mg_6, mg_7, mg_8, mg_9, mg_10, mg_11, mg_12, mg_13, mg_14, mg_15, mg_16, mg_17, mg_18, mg_19, mp_0, mp_2, mp_10, mp_11, mp_12, mp_18, mt_0, ma_tx, ms_tx, ma_td, ms_td, ma_ki, ms_ki, ma_kd, ms_kd, ma_pe, ms_pe, ma_sk, ms_sk, ma_wo, ms_wo, ma_sl, ms_sl, ma_sa, ms_sa, ma_wy, ms_wy, ma_be, ms_be, ma_po, ms_po, ma_mh, ms_mh, ma_go, ms_go, hC, nI_add, pk_mul, pk_sub, zn_lt, zn_eq, zn_lt0, zn_eq0, zn_0lt, zb_0, zb_k, zn_k1, zn_k0, ite_not, Nat.add_zero, Nat.zero_add, Nat.reduceAdd, Nat.reduceSub, Nat.reduceMul, Option.bind_some, Option.bind_none, Option.toList_some, Option.toList_none, List.cons_append, List.nil_append, if_true, if_false, zif_t, zif_f, eq_self, zin_l]
theorem e_isKind (hC : C.length = 104) (hP : 1 ≤ ki 0 ∧ ki 0 ≤ 5) {i : Int32} : zev xs L 115 0 [.ref 104, .int i] [] (C ++ zM len at_ kep don see fit tx td ki kd pe sk wo sl sa wy be po mh go) = some (some (.int (zb (zin i (ki 0)))), C ++ zM len at_ kep don see fit tx td ki kd pe sk wo sl sa wy be po mh go) := by
  simp (disch := omega) only [q115_0, q115_1, q115_2, q115_3, q115_4, q115_7, q115_8, q115_9, q115_10, q115_11, q115_12, q115_15, e_in, mg_0, mg_1, mg_2, mg_3, mg_4, mg_5, mg_6, mg_7, mg_8, mg_9, mg_10, mg_11, mg_12, mg_13, mg_14, mg_15, mg_16, mg_17, mg_18, mg_19, mp_0, mp_2, mp_10, mp_11, mp_12, mp_18, mt_0, ma_tx, ms_tx, ma_td, ms_td, ma_ki, ms_ki, ma_kd, ms_kd, ma_pe, ms_pe, ma_sk, ms_sk, ma_wo, ms_wo, ma_sl, ms_sl, ma_sa, ms_sa, ma_wy, ms_wy, ma_be, ms_be, ma_po, ms_po, ma_mh, ms_mh, ma_go, ms_go, hC, nI_add, pk_mul, pk_sub, zn_lt, zn_eq, zn_lt0, zn_eq0, zn_0lt, zb_0, zb_k, zn_k1, zn_k0, ite_not, Nat.add_zero, Nat.zero_add, Nat.reduceAdd, Nat.reduceSub, Nat.reduceMul, Option.bind_some, Option.bind_none, Option.toList_some, Option.toList_none, List.cons_append, List.nil_append, if_true, if_false, zif_t, zif_f, eq_self, zin_l]
theorem e_kindOf (hC : C.length = 104) {s i : Nat} (hs : s < 12) (hi : i < 6) (hk : sl (61 * s + i) < 6) : zev xs L 116 0 [.ref 104, .int (nI s), .int (nI i)] [] (C ++ zM len at_ kep don see fit tx td ki kd pe sk wo sl sa wy be po mh go) = some (some (.int (nI (sl (61 * s + 6 + sl (61 * s + i))))), C ++ zM len at_ kep don see fit tx td ki kd pe sk wo sl sa wy be po mh go) := by
  simp (disch := omega) only [q116_0, q116_1, q116_4, q116_6, q116_7, q116_8, q116_10, q116_11, q116_12, q116_15, q116_17, q116_18, q116_19, q116_20, q116_21, q116_22, q116_23, q116_24, q116_25, q116_26, mg_0, mg_1, mg_2, mg_3, mg_4, mg_5, mg_6, mg_7, mg_8, mg_9, mg_10, mg_11, mg_12, mg_13, mg_14, mg_15, mg_16, mg_17, mg_18, mg_19, mp_0, mp_2, mp_10, mp_11, mp_12, mp_18, mt_0, ma_tx, ms_tx, ma_td, ms_td, ma_ki, ms_ki, ma_kd, ms_kd, ma_pe, ms_pe, ma_sk, ms_sk, ma_wo, ms_wo, ma_sl, ms_sl, ma_sa, ms_sa, ma_wy, ms_wy, ma_be, ms_be, ma_po, ms_po, ma_mh, ms_mh, ma_go, ms_go, hC, nI_add, pk_mul, pk_sub, zn_lt, zn_eq, zn_lt0, zn_eq0, zn_0lt, zb_0, zb_k, zn_k1, zn_k0, ite_not, Nat.add_zero, Nat.zero_add, Nat.reduceAdd, Nat.reduceSub, Nat.reduceMul, Option.bind_some, Option.bind_none, Option.toList_some, Option.toList_none, List.cons_append, List.nil_append, if_true, if_false, zif_t, zif_f, eq_self]
theorem l_copies (hC : C.length = 104) {a b : Nat} (ha : a < 12) (hb : b < 12) (hab : a ≠ b) : ∀ r k, k + r = 61 → zev xs L 120 2 [.ref 104, .int (nI a), .int (nI b), .int (nI k)] [] (C ++ zM len at_ kep don see fit tx td ki kd pe sk wo (zcp sl a b k) sa wy be po mh go) = some (none, C ++ zM len at_ kep don see fit tx td ki kd pe sk wo (zcp sl a b 61) sa wy be po mh go) := by
  intro r
  induction r with
  | zero => intro k hk; obtain rfl : k = 61 := by omega
            rw [q120_2]; simp (disch := omega) only [q120_0, q120_1, q120_3, q120_5, q120_8, q120_9, q120_12, q120_14, q120_15, q120_16, q120_17, q120_18, q120_19, q120_22, q120_24, q120_25, q120_26, q120_27, q120_28, q120_29, q120_30, q120_33, q120_36, mg_0, mg_1, mg_2, mg_3, mg_4, mg_5, mg_6, mg_7, mg_8, mg_9, mg_10, mg_11, mg_12, mg_13, mg_14, mg_15, mg_16, mg_17, mg_18, mg_19, mp_0, mp_2, mp_10, mp_11, mp_12, mp_18, mt_0, ma_tx, ms_tx, ma_td, ms_td, ma_ki, ms_ki, ma_kd, ms_kd, ma_pe, ms_pe, ma_sk, ms_sk, ma_wo, ms_wo, ma_sl, ms_sl, ma_sa, ms_sa, ma_wy, ms_wy, ma_be, ms_be, ma_po, ms_po, ma_mh, ms_mh, ma_go, ms_go, hC, nI_add, pk_mul, pk_sub, zn_lt, zn_eq, zn_lt0, zn_eq0, zn_0lt, zb_0, zb_k, zn_k1, zn_k0, ite_not, Nat.add_zero, Nat.zero_add, Nat.reduceAdd, Nat.reduceSub, Nat.reduceMul, Option.bind_some, Option.bind_none, Option.toList_some, Option.toList_none, List.cons_append, List.nil_append, if_true, if_false, zif_t, zif_f, eq_self]
  | succ r ih =>
    intro k hk
    rw [q120_2]; simp (disch := omega) only [q120_0, q120_1, q120_3, q120_5, q120_8, q120_9, q120_12, q120_14, q120_15, q120_16, q120_17, q120_18, q120_19, q120_22, q120_24, q120_25, q120_26, q120_27, q120_28, q120_29, q120_30, q120_33, q120_36, mg_0, mg_1, mg_2, mg_3, mg_4, mg_5, mg_6, mg_7, mg_8, mg_9, mg_10, mg_11, mg_12, mg_13, mg_14, mg_15, mg_16, mg_17, mg_18, mg_19, mp_0, mp_2, mp_10, mp_11, mp_12, mp_18, mt_0, ma_tx, ms_tx, ma_td, ms_td, ma_ki, ms_ki, ma_kd, ms_kd, ma_pe, ms_pe, ma_sk, ms_sk, ma_wo, ms_wo, ma_sl, ms_sl, ma_sa, ms_sa, ma_wy, ms_wy, ma_be, ms_be, ma_po, ms_po, ma_mh, ms_mh, ma_go, ms_go, hC, nI_add, pk_mul, pk_sub, zn_lt, zn_eq, zn_lt0, zn_eq0, zn_0lt, zb_0, zb_k, zn_k1, zn_k0, ite_not, Nat.add_zero, Nat.zero_add, Nat.reduceAdd, Nat.reduceSub, Nat.reduceMul, Option.bind_some, Option.bind_none, Option.toList_some, Option.toList_none, List.cons_append, List.nil_append, if_true, if_false, zif_t, zif_f, eq_self]
    rw [zcp_s hab (by omega)]
    exact ih (k + 1) (by omega)
theorem e_copies (hC : C.length = 104) {a b : Nat} (ha : a < 12) (hb : b < 12) (hab : a ≠ b) : zev xs L 120 0 [.ref 104, .int (nI a), .int (nI b), .null] [] (C ++ zM len at_ kep don see fit tx td ki kd pe sk wo sl sa wy be po mh go) = some (none, C ++ zM len at_ kep don see fit tx td ki kd pe sk wo (zcp sl a b 61) sa wy be po mh go) := by
  have h := l_copies (xs := xs) (L := L) (sl := sl) (len := len) (at_ := at_) (kep := kep) (don := don) (see := see) (fit := fit) (tx := tx) (td := td) (ki := ki) (kd := kd) (pe := pe) (sk := sk) (wo := wo) (sa := sa) (wy := wy) (be := be) (po := po) (mh := mh) (go := go) hC ‹a < 12› hb hab 61 0 (by omega)
  rw [zcp_0] at h
  simp (disch := omega) only [q120_0, q120_1, q120_3, q120_5, q120_8, q120_9, q120_12, q120_14, q120_15, q120_16, q120_17, q120_18, q120_19, q120_22, q120_24, q120_25, q120_26, q120_27, q120_28, q120_29, q120_30, q120_33, q120_36, Option.bind_some, Option.bind_none, Option.toList_some, Option.toList_none, List.cons_append, List.nil_append, if_true, if_false, zif_t, zif_f, eq_self, h]
theorem l_held (hC : C.length = 104) (hP : pe 0 ≤ 6) : ∀ r k, k + r = pe 0 → zev xs L 129 4 [.ref 104, .int (nI (zsum (fun i => sl (12 + i)) k)), .int (nI k)] [] (C ++ zM len at_ kep don see fit tx td ki kd pe sk wo sl sa wy be po mh go) = some (some (.int (nI (zsum (fun i => sl (12 + i)) (pe 0)))), C ++ zM len at_ kep don see fit tx td ki kd pe sk wo sl sa wy be po mh go) := by
  intro r
  induction r with
  | zero => intro k hk; obtain rfl : k = pe 0 := by omega
            rw [q129_4]; simp (disch := omega) only [q129_0, q129_1, q129_2, q129_3, q129_5, q129_6, q129_9, q129_10, q129_11, q129_14, q129_15, q129_16, q129_19, q129_21, q129_22, q129_23, q129_24, q129_25, q129_26, q129_29, q129_32, q129_33, mg_0, mg_1, mg_2, mg_3, mg_4, mg_5, mg_6, mg_7, mg_8, mg_9, mg_10, mg_11, mg_12, mg_13, mg_14, mg_15, mg_16, mg_17, mg_18, mg_19, mp_0, mp_2, mp_10, mp_11, mp_12, mp_18, mt_0, ma_tx, ms_tx, ma_td, ms_td, ma_ki, ms_ki, ma_kd, ms_kd, ma_pe, ms_pe, ma_sk, ms_sk, ma_wo, ms_wo, ma_sl, ms_sl, ma_sa, ms_sa, ma_wy, ms_wy, ma_be, ms_be, ma_po, ms_po, ma_mh, ms_mh, ma_go, ms_go, hC, nI_add, pk_mul, pk_sub, zn_lt, zn_eq, zn_lt0, zn_eq0, zn_0lt, zb_0, zb_k, zn_k1, zn_k0, ite_not, Nat.add_zero, Nat.zero_add, Nat.reduceAdd, Nat.reduceSub, Nat.reduceMul, Option.bind_some, Option.bind_none, Option.toList_some, Option.toList_none, List.cons_append, List.nil_append, if_true, if_false, zif_t, zif_f, eq_self]
  | succ r ih =>
    intro k hk
    rw [q129_4]; simp (disch := omega) only [q129_0, q129_1, q129_2, q129_3, q129_5, q129_6, q129_9, q129_10, q129_11, q129_14, q129_15, q129_16, q129_19, q129_21, q129_22, q129_23, q129_24, q129_25, q129_26, q129_29, q129_32, q129_33, mg_0, mg_1, mg_2, mg_3, mg_4, mg_5, mg_6, mg_7, mg_8, mg_9, mg_10, mg_11, mg_12, mg_13, mg_14, mg_15, mg_16, mg_17, mg_18, mg_19, mp_0, mp_2, mp_10, mp_11, mp_12, mp_18, mt_0, ma_tx, ms_tx, ma_td, ms_td, ma_ki, ms_ki, ma_kd, ms_kd, ma_pe, ms_pe, ma_sk, ms_sk, ma_wo, ms_wo, ma_sl, ms_sl, ma_sa, ms_sa, ma_wy, ms_wy, ma_be, ms_be, ma_po, ms_po, ma_mh, ms_mh, ma_go, ms_go, hC, nI_add, pk_mul, pk_sub, zn_lt, zn_eq, zn_lt0, zn_eq0, zn_0lt, zb_0, zb_k, zn_k1, zn_k0, ite_not, Nat.add_zero, Nat.zero_add, Nat.reduceAdd, Nat.reduceSub, Nat.reduceMul, Option.bind_some, Option.bind_none, Option.toList_some, Option.toList_none, List.cons_append, List.nil_append, if_true, if_false, zif_t, zif_f, eq_self]
    exact ih (k + 1) (by omega)
theorem e_held (hC : C.length = 104) (hP : pe 0 ≤ 6) : zev xs L 129 0 [.ref 104, .null, .null] [] (C ++ zM len at_ kep don see fit tx td ki kd pe sk wo sl sa wy be po mh go) = some (some (.int (nI (zsum (fun i => sl (12 + i)) (pe 0)))), C ++ zM len at_ kep don see fit tx td ki kd pe sk wo sl sa wy be po mh go) := by
  have h := l_held (xs := xs) (L := L) (sl := sl) (len := len) (at_ := at_) (kep := kep) (don := don) (see := see) (fit := fit) (tx := tx) (td := td) (ki := ki) (kd := kd) (pe := pe) (sk := sk) (wo := wo) (sa := sa) (wy := wy) (be := be) (po := po) (mh := mh) (go := go) hC hP (pe 0) 0 (by omega)
  simp only [zsum] at h
  simp (disch := omega) only [q129_0, q129_1, q129_2, q129_3, q129_5, q129_6, q129_9, q129_10, q129_11, q129_14, q129_15, q129_16, q129_19, q129_21, q129_22, q129_23, q129_24, q129_25, q129_26, q129_29, q129_32, q129_33, Option.bind_some, Option.bind_none, Option.toList_some, Option.toList_none, List.cons_append, List.nil_append, if_true, if_false, zif_t, zif_f, eq_self, h]
end
