/-! ===== the reference: days ===== -/
/-- pages 3 to k-1 each from the next one -/
def zsh (sl : Nat → Nat) (k : Nat) : Nat → Nat := fun j => if 183 ≤ j ∧ j < 61 * k then sl (j + 61) else sl j
theorem zsh_3 (sl : Nat → Nat) : zsh sl 3 = sl := by funext j; unfold zsh; rw [if_neg (by omega)]
theorem zsh_s {sl : Nat → Nat} {k : Nat} (hk : 3 ≤ k) : zcp (zsh sl k) (k + 1) k 61 = zsh sl (k + 1) := by
  funext j
  unfold zcp zsh
  by_cases h1 : 61 * k ≤ j ∧ j < 61 * k + 61
  · rw [if_pos h1, if_neg (by omega), if_pos (by omega)]; congr 1; omega
  · rw [if_neg h1]
    by_cases h2 : 183 ≤ j ∧ j < 61 * k
    · rw [if_pos h2, if_pos (by omega)]
    · rw [if_neg h2, if_neg (by omega)]
def zkn (sl : Nat → Nat) (d : Nat) : Nat → Nat := if d = 8 then zcp (zsh sl 10) 0 10 61 else zcp sl 0 (3 + d) 61
def zknd (d : Nat) : Nat := if d = 8 then 8 else d + 1
def zsw (f : Nat → Nat) (a b : Nat) : Nat → Nat := va_up (va_up f a (f b)) b (f a)
/-- wages and kinds had, the first i persons -/
def zkk (sl : Nat → Nat) (s i : Nat) : Nat := sl (61 * s + 6 + sl (61 * s + i))
def zpay (sl kd : Nat → Nat) (s i : Nat) : Nat → Nat := fun j =>
  if 61 * s + 18 ≤ j ∧ j < 61 * s + 18 + i then sl j + kd (3 * zkk sl s (j - 61 * s - 18) + 1)
  else if 61 * s + 30 ≤ j ∧ j < 61 * s + 30 + 5 * i ∧ (j - 61 * s - 30) % 5 = zkk sl s ((j - 61 * s - 30) / 5) then sl j + 1
  else sl j
theorem zpay_0 (sl kd : Nat → Nat) (s : Nat) : zpay sl kd s 0 = sl := by funext j; unfold zpay; rw [if_neg (by omega), if_neg (by omega)]
theorem zpay_lo {sl kd : Nat → Nat} {s i j : Nat} (h : j < 61 * s + 18) : zpay sl kd s i j = sl j := by unfold zpay; rw [if_neg (by omega), if_neg (by omega)]
theorem zpay_kk {sl kd : Nat → Nat} {s i j : Nat} (hj : j < 6) (hw : sl (61 * s + j) < 6) : zpay sl kd s i (61 * s + 6 + zpay sl kd s i (61 * s + j)) = zkk sl s j := by
  rw [zpay_lo (j := 61 * s + j) (by omega), zpay_lo (by omega)]; rfl
theorem zpay_s {sl kd : Nat → Nat} {s i : Nat} (hi : i < 6) (hk : zkk sl s i < 5) :
    va_up (va_up (zpay sl kd s i) (61 * s + 18 + i) (zpay sl kd s i (61 * s + 18 + i) + kd (3 * zkk sl s i + 1))) (61 * s + 30 + 5 * i + zkk sl s i) (va_up (zpay sl kd s i) (61 * s + 18 + i) (zpay sl kd s i (61 * s + 18 + i) + kd (3 * zkk sl s i + 1)) (61 * s + 30 + 5 * i + zkk sl s i) + 1) = zpay sl kd s (i + 1) := by
  have e1 : zpay sl kd s i (61 * s + 18 + i) = sl (61 * s + 18 + i) := by unfold zpay; rw [if_neg (by omega), if_neg (by omega)]
  have e2 : zpay sl kd s i (61 * s + 30 + 5 * i + zkk sl s i) = sl (61 * s + 30 + 5 * i + zkk sl s i) := by unfold zpay; rw [if_neg (by omega), if_neg (by omega)]
  funext j
  rw [e1]
  by_cases h1 : j = 61 * s + 30 + 5 * i + zkk sl s i
  · subst h1
    rw [va_up_self, va_up_ne _ _ (by omega), e2]
    unfold zpay
    have h3 : (61 * s + 30 + 5 * i + zkk sl s i - 61 * s - 30) / 5 = i := by omega
    rw [if_neg (by omega), if_pos ⟨by omega, by omega, by rw [h3]; omega⟩]
  · rw [va_up_ne _ _ h1]
    by_cases h2 : j = 61 * s + 18 + i
    · subst h2
      rw [va_up_self]
      unfold zpay
      rw [if_pos (by omega)]
      congr 3; congr 1; congr 1; omega
    · rw [va_up_ne _ _ h2]
      unfold zpay
      by_cases h4 : 61 * s + 18 ≤ j ∧ j < 61 * s + 18 + i
      · rw [if_pos h4, if_pos (by omega)]
      · rw [if_neg h4, if_neg (show ¬ (61 * s + 18 ≤ j ∧ j < 61 * s + 18 + (i + 1)) by omega)]
        by_cases h5 : 61 * s + 30 ≤ j ∧ j < 61 * s + 30 + 5 * i ∧ (j - 61 * s - 30) % 5 = zkk sl s ((j - 61 * s - 30) / 5)
        · rw [if_pos h5, if_pos ⟨h5.1, by omega, h5.2.2⟩]
        · rw [if_neg h5, if_neg]
          rintro ⟨g1, g2, g3⟩
          by_cases g4 : j < 61 * s + 30 + 5 * i
          · exact h5 ⟨g1, g4, g3⟩
          · have g5 : (j - 61 * s - 30) / 5 = i := by omega
            rw [g5] at g3
            omega
/-- whose mask goes to k at a dawn by z on the day d -/
def zq (z k d : Nat) : Nat := (7919 * z + 6151 * k + 3571 * d + 1) * (7919 * z + 6151 * k + 3571 * d + 1) % 65521 % (k + 1)
theorem zq_le (z k d : Nat) : zq z k d ≤ k := Nat.le_of_lt_succ (Nat.mod_lt _ (Nat.succ_pos k))
theorem zq_long {z k d : Nat} (hz : z < 10000) (hk : k < 6) (hd : d < 20000) : (lN (((7919 * z + 6151 * k + 3571 * d + 1) * (7919 * z + 6151 * k + 3571 * d + 1)) % 65521 % (k + 1))).toInt32 = nI (zq z k d) := by rw [lN_i]; rfl
theorem zq_b {z k d : Nat} (hz : z < 10000) (hk : k < 6) (hd : d < 20000) : (7919 * z + 6151 * k + 3571 * d + 1) * (7919 * z + 6151 * k + 3571 * d + 1) < 2 ^ 63 := by
  have h1 : 7919 * z + 6151 * k + 3571 * d + 1 ≤ 200000000 := by omega
  calc _ ≤ 200000000 * 200000000 := Nat.mul_le_mul h1 h1
    _ < 2 ^ 63 := by decide
/-- the lots from k down -/
def zlots (z d s : Nat) : Nat → (Nat → Nat) → Nat → Nat
  | 0, f => f
  | k + 1, f => zlots z d s k (zsw f (s + (k + 1)) (s + zq z (k + 1) d))
def zdawn (sl kd : Nat → Nat) (s z n : Nat) : Nat → Nat := zlots z (sl (61 * s + 60) + 1) (61 * s) (n - 1) (va_up (zpay sl kd s n) (61 * s + 60) (sl (61 * s + 60) + 1))
theorem zl_rem {a b : Nat} (ha : a < 2 ^ 63) (h0 : 0 < b) (hb : b < 2 ^ 63) : lN a - lN a / lN b * lN b = lN (a % b) := pk_lRem ha h0 hb
theorem zl_eq0 {a : Nat} (ha : a < 2 ^ 63) : (lN a = 0) ↔ a = 0 := by
  have := pk_lEQ (a := a) (b := 0) ha (by decide)
  rw [← this]; rfl
section
variable {xs : Nat → Int32} {L : Nat} {C h : ZH} {len at_ kep don see : Nat} {fit : Int32} {tx : Nat → Int32} {td ki kd pe sk wo sl sa wy be po mh : Nat → Nat} {go : Nat → Int32} 
theorem l_known (hC : C.length = 104) : ∀ r k, k + r = 10 → 3 ≤ k → zev xs L 121 11 [.ref 104, .int (nI k)] [] (C ++ zM len at_ kep (8) see fit tx td ki kd pe sk wo (zsh sl k) sa wy be po mh go) = some (none, C ++ zM len at_ kep (8) see fit tx td ki kd pe sk wo (zcp (zsh sl 10) 0 10 61) sa wy be po mh go) := by
  intro r
  induction r with
  | zero => intro k hk _; obtain rfl : k = 10 := by omega
            rw [q121_11]; simp (disch := first | omega | exact mt_0 hC) only [q121_0, q121_1, q121_4, q121_6, q121_9, q121_10, q121_12, q121_14, q121_17, q121_18, q121_19, q121_20, q121_21, q121_22, q121_25, q121_28, q121_31, q121_32, q121_33, q121_36, q121_37, q121_38, q121_41, q121_42, q121_43, q121_44, q121_45, q121_48, q121_49, q121_52, q121_53, q121_54, q121_57, q121_58, q121_59, q121_62, e_copies, mg_0, mg_1, mg_2, mg_3, mg_4, mg_5, mg_6, mg_7, mg_8, mg_9, mg_10, mg_11, mg_12, mg_13, mg_14, mg_15, mg_16, mg_17, mg_18, mg_19, mp_0, mp_2, mp_10, mp_11, mp_12, mp_18, mt_0, ma_tx, ms_tx, ma_td, ms_td, ma_ki, ms_ki, ma_kd, ms_kd, ma_pe, ms_pe, ma_sk, ms_sk, ma_wo, ms_wo, ma_sl, ms_sl, ma_sa, ms_sa, ma_wy, ms_wy, ma_be, ms_be, ma_po, ms_po, ma_mh, ms_mh, ma_go, ms_go, hC, nI_add, pk_mul, pk_sub, zn_lt, zn_eq, zn_lt0, zn_eq0, zn_0lt, zb_0, zb_k, zn_k1, zn_k0, ite_not, Nat.add_zero, Nat.zero_add, Nat.reduceAdd, Nat.reduceSub, Nat.reduceMul, Option.bind_some, Option.bind_none, Option.toList_some, Option.toList_none, List.cons_append, List.nil_append, if_true, if_false, zif_t, zif_f, eq_self]
  | succ r ih =>
    intro k hk h3
    rw [q121_11]; simp (disch := first | omega | exact mt_0 hC) only [q121_0, q121_1, q121_4, q121_6, q121_9, q121_10, q121_12, q121_14, q121_17, q121_18, q121_19, q121_20, q121_21, q121_22, q121_25, q121_28, q121_31, q121_32, q121_33, q121_36, q121_37, q121_38, q121_41, q121_42, q121_43, q121_44, q121_45, q121_48, q121_49, q121_52, q121_53, q121_54, q121_57, q121_58, q121_59, q121_62, e_copies, mg_0, mg_1, mg_2, mg_3, mg_4, mg_5, mg_6, mg_7, mg_8, mg_9, mg_10, mg_11, mg_12, mg_13, mg_14, mg_15, mg_16, mg_17, mg_18, mg_19, mp_0, mp_2, mp_10, mp_11, mp_12, mp_18, mt_0, ma_tx, ms_tx, ma_td, ms_td, ma_ki, ms_ki, ma_kd, ms_kd, ma_pe, ms_pe, ma_sk, ms_sk, ma_wo, ms_wo, ma_sl, ms_sl, ma_sa, ms_sa, ma_wy, ms_wy, ma_be, ms_be, ma_po, ms_po, ma_mh, ms_mh, ma_go, ms_go, hC, nI_add, pk_mul, pk_sub, zn_lt, zn_eq, zn_lt0, zn_eq0, zn_0lt, zb_0, zb_k, zn_k1, zn_k0, ite_not, Nat.add_zero, Nat.zero_add, Nat.reduceAdd, Nat.reduceSub, Nat.reduceMul, Option.bind_some, Option.bind_none, Option.toList_some, Option.toList_none, List.cons_append, List.nil_append, if_true, if_false, zif_t, zif_f, eq_self, zsh_s]
    exact ih (k + 1) (by omega) (by omega)
theorem e_known (hC : C.length = 104) (hd : don ≤ 8) : zev xs L 121 0 [.ref 104, .null] [] (C ++ zM len at_ kep don see fit tx td ki kd pe sk wo sl sa wy be po mh go) = some (none, C ++ zM len at_ kep (zknd don) see fit tx td ki kd pe sk wo (zkn sl don) sa wy be po mh go) := by
  by_cases h8 : don = 8
  · subst h8
    have h := l_known (xs := xs) (L := L) (len := len) (at_ := at_) (kep := kep) (see := see) (fit := fit) (tx := tx) (td := td) (ki := ki) (kd := kd) (pe := pe) (sk := sk) (wo := wo) (sl := sl) (sa := sa) (wy := wy) (be := be) (po := po) (mh := mh) (go := go) hC 7 3 (by omega) (by omega)
    rw [zsh_3] at h
    simp (disch := first | omega | exact mt_0 hC) only [q121_0, q121_1, q121_4, q121_6, q121_9, q121_10, q121_12, q121_14, q121_17, q121_18, q121_19, q121_20, q121_21, q121_22, q121_25, q121_28, q121_31, q121_32, q121_33, q121_36, q121_37, q121_38, q121_41, q121_42, q121_43, q121_44, q121_45, q121_48, q121_49, q121_52, q121_53, q121_54, q121_57, q121_58, q121_59, q121_62, mg_0, mg_1, mg_2, mg_3, mg_4, mg_5, mg_6, mg_7, mg_8, mg_9, mg_10, mg_11, mg_12, mg_13, mg_14, mg_15, mg_16, mg_17, mg_18, mg_19, mp_0, mp_2, mp_10, mp_11, mp_12, mp_18, mt_0, ma_tx, ms_tx, ma_td, ms_td, ma_ki, ms_ki, ma_kd, ms_kd, ma_pe, ms_pe, ma_sk, ms_sk, ma_wo, ms_wo, ma_sl, ms_sl, ma_sa, ms_sa, ma_wy, ms_wy, ma_be, ms_be, ma_po, ms_po, ma_mh, ms_mh, ma_go, ms_go, hC, nI_add, pk_mul, pk_sub, zn_lt, zn_eq, zn_lt0, zn_eq0, zn_0lt, zb_0, zb_k, zn_k1, zn_k0, ite_not, Nat.add_zero, Nat.zero_add, Nat.reduceAdd, Nat.reduceSub, Nat.reduceMul, Option.bind_some, Option.bind_none, Option.toList_some, Option.toList_none, List.cons_append, List.nil_append, if_true, if_false, zif_t, zif_f, eq_self, h, zkn, zknd]
  · simp (disch := first | omega | exact mt_0 hC) only [q121_0, q121_1, q121_4, q121_6, q121_9, q121_10, q121_12, q121_14, q121_17, q121_18, q121_19, q121_20, q121_21, q121_22, q121_25, q121_28, q121_31, q121_32, q121_33, q121_36, q121_37, q121_38, q121_41, q121_42, q121_43, q121_44, q121_45, q121_48, q121_49, q121_52, q121_53, q121_54, q121_57, q121_58, q121_59, q121_62, e_copies, mg_0, mg_1, mg_2, mg_3, mg_4, mg_5, mg_6, mg_7, mg_8, mg_9, mg_10, mg_11, mg_12, mg_13, mg_14, mg_15, mg_16, mg_17, mg_18, mg_19, mp_0, mp_2, mp_10, mp_11, mp_12, mp_18, mt_0, ma_tx, ms_tx, ma_td, ms_td, ma_ki, ms_ki, ma_kd, ms_kd, ma_pe, ms_pe, ma_sk, ms_sk, ma_wo, ms_wo, ma_sl, ms_sl, ma_sa, ms_sa, ma_wy, ms_wy, ma_be, ms_be, ma_po, ms_po, ma_mh, ms_mh, ma_go, ms_go, hC, nI_add, pk_mul, pk_sub, zn_lt, zn_eq, zn_lt0, zn_eq0, zn_0lt, zb_0, zb_k, zn_k1, zn_k0, ite_not, Nat.add_zero, Nat.zero_add, Nat.reduceAdd, Nat.reduceSub, Nat.reduceMul, Option.bind_some, Option.bind_none, Option.toList_some, Option.toList_none, List.cons_append, List.nil_append, if_true, if_false, zif_t, zif_f, eq_self, zkn, zknd]
theorem e_trades (hC : C.length = 104) {s i j : Nat} (hs : s < 12) (hi : i < 6) (hj : j < 6) : zev xs L 125 0 [.ref 104, .int (nI s), .int (nI i), .int (nI j), .null] [] (C ++ zM len at_ kep don see fit tx td ki kd pe sk wo sl sa wy be po mh go) = some (none, C ++ zM len at_ kep don see fit tx td ki kd pe sk wo (zsw sl (61 * s + i) (61 * s + j)) sa wy be po mh go) := by
  simp (disch := first | omega | exact mt_0 hC) only [q125_0, q125_1, q125_4, q125_6, q125_7, q125_8, q125_9, q125_10, q125_11, q125_12, q125_13, q125_15, q125_16, q125_19, q125_21, q125_22, q125_23, q125_24, q125_25, q125_26, q125_27, q125_28, q125_31, q125_33, q125_34, q125_35, q125_36, q125_37, q125_38, q125_39, q125_40, q125_41, q125_42, q125_45, q125_47, q125_48, q125_49, q125_50, q125_51, q125_52, q125_53, q125_55, q125_56, mg_0, mg_1, mg_2, mg_3, mg_4, mg_5, mg_6, mg_7, mg_8, mg_9, mg_10, mg_11, mg_12, mg_13, mg_14, mg_15, mg_16, mg_17, mg_18, mg_19, mp_0, mp_2, mp_10, mp_11, mp_12, mp_18, mt_0, ma_tx, ms_tx, ma_td, ms_td, ma_ki, ms_ki, ma_kd, ms_kd, ma_pe, ms_pe, ma_sk, ms_sk, ma_wo, ms_wo, ma_sl, ms_sl, ma_sa, ms_sa, ma_wy, ms_wy, ma_be, ms_be, ma_po, ms_po, ma_mh, ms_mh, ma_go, ms_go, hC, nI_add, pk_mul, pk_sub, zn_lt, zn_eq, zn_lt0, zn_eq0, zn_0lt, zb_0, zb_k, zn_k1, zn_k0, ite_not, Nat.add_zero, Nat.zero_add, Nat.reduceAdd, Nat.reduceSub, Nat.reduceMul, Option.bind_some, Option.bind_none, Option.toList_some, Option.toList_none, List.cons_append, List.nil_append, if_true, if_false, zif_t, zif_f, eq_self]; rfl
theorem e_mayGo (hC : C.length = 104) {s i : Nat} (hs : s < 12) (hi : i < 6) (hk : sl (61 * s + i) < 6) (hkk : zkk sl s i < 5) (ht : td 1 < 64) : zev xs L 124 0 [.ref 104, .int (nI s), .int (nI i)] [] (C ++ zM len at_ kep don see fit tx td ki kd pe sk wo sl sa wy be po mh go) = some (some (.int (zb (td 1 / 2 ^ zkk sl s i % 2 = 0))), C ++ zM len at_ kep don see fit tx td ki kd pe sk wo sl sa wy be po mh go) := by
  have hkk' : sl (61 * s + 6 + sl (61 * s + i)) < 5 := hkk
  have h1 : td 1 / 2 ^ sl (61 * s + 6 + sl (61 * s + i)) < 2 ^ 31 := Nat.lt_of_le_of_lt (Nat.div_le_self _ _) (by omega)
  have h2 : td 1 / 2 ^ sl (61 * s + 6 + sl (61 * s + i)) &&& 1 = td 1 / 2 ^ sl (61 * s + 6 + sl (61 * s + i)) % 2 := Nat.and_one_is_mod _
  have h3 : td 1 / 2 ^ sl (61 * s + 6 + sl (61 * s + i)) % 2 < 2 := Nat.mod_lt _ (by decide)
  simp (disch := first | omega | exact mt_0 hC) only [q124_0, q124_1, q124_4, q124_5, q124_6, q124_7, q124_8, q124_9, q124_12, q124_13, q124_14, q124_15, q124_18, q124_19, q124_22, q124_23, e_kindOf, mg_0, mg_1, mg_2, mg_3, mg_4, mg_5, mg_6, mg_7, mg_8, mg_9, mg_10, mg_11, mg_12, mg_13, mg_14, mg_15, mg_16, mg_17, mg_18, mg_19, mp_0, mp_2, mp_10, mp_11, mp_12, mp_18, mt_0, ma_tx, ms_tx, ma_td, ms_td, ma_ki, ms_ki, ma_kd, ms_kd, ma_pe, ms_pe, ma_sk, ms_sk, ma_wo, ms_wo, ma_sl, ms_sl, ma_sa, ms_sa, ma_wy, ms_wy, ma_be, ms_be, ma_po, ms_po, ma_mh, ms_mh, ma_go, ms_go, hC, zn_shr, zn_and, h2, nI_add, pk_mul, pk_sub, zn_lt, zn_eq, zn_lt0, zn_eq0, zn_0lt, zb_0, zb_k, zn_k1, zn_k0, ite_not, Nat.add_zero, Nat.zero_add, Nat.reduceAdd, Nat.reduceSub, Nat.reduceMul, Option.bind_some, Option.bind_none, Option.toList_some, Option.toList_none, List.cons_append, List.nil_append, if_true, if_false, zif_t, zif_f, eq_self, zkk]
  by_cases hh : td 1 / 2 ^ sl (61 * s + 6 + sl (61 * s + i)) % 2 = 0
  · simp only [hh, if_true, zb, zn_k1]
  · simp only [hh, if_false, zb, zn_k0, if_true]
end
