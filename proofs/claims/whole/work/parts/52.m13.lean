/-! ===== the reference: the text ===== -/
def zsx (b : Nat) : Int32 := (nI b).toInt8.toInt32
set_option maxRecDepth 100000 in
theorem zsx_0 : (List.range 256).all (fun b => decide ((lN 48 ≤ (zsx b).toInt64 ∧ (zsx b).toInt64 ≤ lN 57) ↔ (48 ≤ b ∧ b ≤ 57)) && (decide (128 ≤ b) || decide (zsx b = nI b)) && (List.range 128).all (fun c => decide ((zsx b = nI c) ↔ b = c))) = true := by decide +kernel
theorem zsx_a {b : Nat} (hb : b < 256) : ((lN 48 ≤ (zsx b).toInt64 ∧ (zsx b).toInt64 ≤ lN 57) ↔ (48 ≤ b ∧ b ≤ 57)) ∧ (b < 128 → zsx b = nI b) ∧ (∀ c, c < 128 → ((zsx b = nI c) ↔ b = c)) := by
  have h := List.all_eq_true.mp zsx_0 b (List.mem_range.mpr hb)
  simp only [Bool.and_eq_true, Bool.or_eq_true, decide_eq_true_eq, List.all_eq_true, List.mem_range] at h
  exact ⟨h.1.1, fun q => h.1.2.resolve_left (by omega), h.2⟩
theorem zsx_f {b : Nat} (hb : b < 256) : (lN 48 ≤ (zsx b).toInt64 ∧ (zsx b).toInt64 ≤ lN 57) ↔ (48 ≤ b ∧ b ≤ 57) := (zsx_a hb).1
theorem zsx_n {b : Nat} (hb : b < 128) : zsx b = nI b := (zsx_a (by omega)).2.1 hb
theorem zsx_e {b c : Nat} (hb : b < 256) (hc : c < 128) : (zsx b = nI c) ↔ b = c := (zsx_a hb).2.2 c hc
/-- how many figures stand at p -/
def zdig (t : Nat → Nat) (len : Nat) : Nat → Nat → Nat
  | 0, _ => 0
  | r + 1, p => if p < len ∧ 48 ≤ t p ∧ t p ≤ 57 then 1 + zdig t len r (p + 1) else 0
/-- the number of the first three of c figures at p -/
def zval (t : Nat → Nat) (p : Nat) : Nat → Nat
  | 0 => 0
  | c + 1 => if c < 3 then 10 * zval t p c + (t (p + c) - 48) else zval t p c
theorem zval_le {t : Nat → Nat} {p : Nat} (h : ∀ j, t j < 256) : ∀ c, zval t p c < 300000
  | 0 => by unfold zval; decide
  | 1 => by have := h p; simp [zval]; omega
  | 2 => by have := h p; have := h (p + 1); simp [zval]; omega
  | 3 => by have := h p; have := h (p + 1); have := h (p + 2); simp [zval]; omega
  | c + 4 => by rw [zval, if_neg (by omega)]; exact zval_le h (c + 3)
theorem zdig_le {t : Nat → Nat} {len : Nat} : ∀ {r p : Nat}, p ≤ len → p + zdig t len r p ≤ len
  | 0, _, h => h
  | r + 1, p, h => by
    unfold zdig
    split
    · next g => have := zdig_le (t := t) (len := len) (r := r) (p := p + 1) (by omega); omega
    · exact h
abbrev zLive (td ki kd pe sk wo td' ki' kd' pe' sk' wo' : Nat → Nat) : Prop := td' 0 = td 0 ∧ td' 1 = td 1 ∧ ki' 0 = ki 0 ∧ pe' 0 = pe 0 ∧ (∀ j, j < 15 → kd' j = kd j) ∧ (∀ j, j < 6 → sk' j = sk j) ∧ (∀ j, j < 30 → wo' j = wo j)
def znumv (c v : Nat) : Int32 := if 1 ≤ c ∧ c ≤ 3 then nI v else (-1)
section
variable {xs : Nat → Int32} {L : Nat} {C h : ZH} {len at_ kep don see : Nat} {fit : Int32} {tx : Nat → Int32} {td ki kd pe sk wo sl sa wy be po mh : Nat → Nat} {go : Nat → Int32}  {t : Nat → Nat}
theorem e_begins (hC : C.length = 104) : zev xs L 109 0 [.ref 104] [] (C ++ zM len at_ kep don see fit tx td ki kd pe sk wo sl sa wy be po mh go) = some (none, C ++ zM len at_ kep don see fit tx (va_up (va_up td 2 0) 3 0) (va_up ki 1 0) kd (va_up pe 1 0) sk wo sl sa wy be po mh go) := by
  simp (disch := first | omega | exact mt_0 hC | assumption) only [q109_0, q109_1, q109_4, q109_5, q109_6, q109_7, q109_8, q109_11, q109_12, q109_13, q109_14, q109_15, q109_18, q109_19, q109_20, q109_21, q109_22, q109_25, q109_26, q109_27, q109_28, mg_0, mg_1, mg_2, mg_3, mg_4, mg_5, mg_6, mg_7, mg_8, mg_9, mg_10, mg_11, mg_12, mg_13, mg_14, mg_15, mg_16, mg_17, mg_18, mg_19, mp_0, mp_2, mp_10, mp_11, mp_12, mp_18, mt_0, ma_tx, ms_tx, ma_td, ms_td, ma_ki, ms_ki, ma_kd, ms_kd, ma_pe, ms_pe, ma_sk, ms_sk, ma_wo, ms_wo, ma_sl, ms_sl, ma_sa, ms_sa, ma_wy, ms_wy, ma_be, ms_be, ma_po, ms_po, ma_mh, ms_mh, ma_go, ms_go, hC, nI_add, pk_mul, pk_sub, zn_lt, zn_eq, zn_lt0, zn_eq0, zn_0lt, zb_0, zb_k, zn_k1, zn_k0, ite_not, Nat.add_zero, Nat.zero_add, Nat.reduceAdd, Nat.reduceSub, Nat.reduceMul, Option.bind_some, Option.bind_none, Option.toList_some, Option.toList_none, List.cons_append, List.nil_append, if_true, if_false, zif_t, zif_f, eq_self]
theorem l_number (hC : C.length = 104) (hl : len ≤ 300) (ht : ∀ j, t j < 256) (htx : ∀ j, j < len → tx j = zsx (t j)) {p : Nat} : ∀ r c, len ≤ p + c + r → p + c ≤ len → zev xs L 105 4 [.ref 104, .int (nI (zval t p c)), .int (nI c)] [] (C ++ zM len (p + c) kep don see fit tx td ki kd pe sk wo sl sa wy be po mh go) = some (some (.int (znumv (c + zdig t len r (p + c)) (zval t p (c + zdig t len r (p + c))))), C ++ zM len (p + (c + zdig t len r (p + c))) kep don see fit tx td ki kd pe sk wo sl sa wy be po mh go) := by
  have fin : ∀ c, p + c ≤ len → zev xs L 105 80 [.ref 104, .int (nI (zval t p c)), .int (nI c)] [] (C ++ zM len (p + c) kep don see fit tx td ki kd pe sk wo sl sa wy be po mh go) = some (some (.int (znumv c (zval t p c))), C ++ zM len (p + c) kep don see fit tx td ki kd pe sk wo sl sa wy be po mh go) := by
    intro c hc
    have e2 := zin_2 (i := nI c) (a := 1) (b := 3) (by omega) (by omega)
    rw [nI_toInt (by omega)] at e2
    unfold znumv
    by_cases g : 1 ≤ c ∧ c ≤ 3
    · have e3 := e2.mpr (by omega)
      simp (disch := first | omega | exact mt_0 hC | assumption) only [q105_0, q105_1, q105_2, q105_3, q105_5, q105_8, q105_9, q105_12, q105_15, q105_16, q105_19, q105_20, q105_23, q105_24, q105_25, q105_28, q105_31, q105_34, q105_37, q105_38, q105_39, q105_42, q105_44, q105_45, q105_46, q105_47, q105_50, q105_51, q105_54, q105_55, q105_56, q105_58, q105_59, q105_62, q105_63, q105_64, q105_67, q105_68, q105_69, q105_72, q105_73, q105_74, q105_77, q105_80, q105_81, q105_82, q105_83, q105_86, q105_89, q105_92, q105_93, q105_96, q105_97, e_in, e3, g, and_self, mg_0, mg_1, mg_2, mg_3, mg_4, mg_5, mg_6, mg_7, mg_8, mg_9, mg_10, mg_11, mg_12, mg_13, mg_14, mg_15, mg_16, mg_17, mg_18, mg_19, mp_0, mp_2, mp_10, mp_11, mp_12, mp_18, mt_0, ma_tx, ms_tx, ma_td, ms_td, ma_ki, ms_ki, ma_kd, ms_kd, ma_pe, ms_pe, ma_sk, ms_sk, ma_wo, ms_wo, ma_sl, ms_sl, ma_sa, ms_sa, ma_wy, ms_wy, ma_be, ms_be, ma_po, ms_po, ma_mh, ms_mh, ma_go, ms_go, hC, nI_add, pk_mul, pk_sub, zn_lt, zn_eq, zn_lt0, zn_eq0, zn_0lt, zb_0, zb_k, zn_k1, zn_k0, ite_not, Nat.add_zero, Nat.zero_add, Nat.reduceAdd, Nat.reduceSub, Nat.reduceMul, Option.bind_some, Option.bind_none, Option.toList_some, Option.toList_none, List.cons_append, List.nil_append, if_true, if_false, zif_t, zif_f, eq_self]
    · have e3 : ¬ (lN 1 ≤ (nI c).toInt64 ∧ (nI c).toInt64 ≤ lN 3) := fun q => g (by have := e2.mp q; omega)
      simp (disch := first | omega | exact mt_0 hC | assumption) only [q105_0, q105_1, q105_2, q105_3, q105_5, q105_8, q105_9, q105_12, q105_15, q105_16, q105_19, q105_20, q105_23, q105_24, q105_25, q105_28, q105_31, q105_34, q105_37, q105_38, q105_39, q105_42, q105_44, q105_45, q105_46, q105_47, q105_50, q105_51, q105_54, q105_55, q105_56, q105_58, q105_59, q105_62, q105_63, q105_64, q105_67, q105_68, q105_69, q105_72, q105_73, q105_74, q105_77, q105_80, q105_81, q105_82, q105_83, q105_86, q105_89, q105_92, q105_93, q105_96, q105_97, e_in, e3, g, mg_0, mg_1, mg_2, mg_3, mg_4, mg_5, mg_6, mg_7, mg_8, mg_9, mg_10, mg_11, mg_12, mg_13, mg_14, mg_15, mg_16, mg_17, mg_18, mg_19, mp_0, mp_2, mp_10, mp_11, mp_12, mp_18, mt_0, ma_tx, ms_tx, ma_td, ms_td, ma_ki, ms_ki, ma_kd, ms_kd, ma_pe, ms_pe, ma_sk, ms_sk, ma_wo, ms_wo, ma_sl, ms_sl, ma_sa, ms_sa, ma_wy, ms_wy, ma_be, ms_be, ma_po, ms_po, ma_mh, ms_mh, ma_go, ms_go, hC, nI_add, pk_mul, pk_sub, zn_lt, zn_eq, zn_lt0, zn_eq0, zn_0lt, zb_0, zb_k, zn_k1, zn_k0, ite_not, Nat.add_zero, Nat.zero_add, Nat.reduceAdd, Nat.reduceSub, Nat.reduceMul, Option.bind_some, Option.bind_none, Option.toList_some, Option.toList_none, List.cons_append, List.nil_append, if_true, if_false, zif_t, zif_f, eq_self]
  intro r
  induction r with
  | zero =>
    intro c h1 h2
    obtain he : p + c = len := by omega
    have f := fin c h2
    rw [q105_4]; simp (disch := first | omega | exact mt_0 hC | assumption) only [q105_0, q105_1, q105_2, q105_3, q105_5, q105_8, q105_9, q105_12, q105_15, q105_16, q105_19, q105_20, q105_23, q105_24, q105_25, q105_28, q105_31, q105_34, q105_37, q105_38, q105_39, q105_42, q105_44, q105_45, q105_46, q105_47, q105_50, q105_51, q105_54, q105_55, q105_56, q105_58, q105_59, q105_62, q105_63, q105_64, q105_67, q105_68, q105_69, q105_72, q105_73, q105_74, q105_77, q105_81, q105_82, q105_83, q105_86, q105_89, q105_92, q105_93, q105_96, q105_97, f, mg_0, mg_1, mg_2, mg_3, mg_4, mg_5, mg_6, mg_7, mg_8, mg_9, mg_10, mg_11, mg_12, mg_13, mg_14, mg_15, mg_16, mg_17, mg_18, mg_19, mp_0, mp_2, mp_10, mp_11, mp_12, mp_18, mt_0, ma_tx, ms_tx, ma_td, ms_td, ma_ki, ms_ki, ma_kd, ms_kd, ma_pe, ms_pe, ma_sk, ms_sk, ma_wo, ms_wo, ma_sl, ms_sl, ma_sa, ms_sa, ma_wy, ms_wy, ma_be, ms_be, ma_po, ms_po, ma_mh, ms_mh, ma_go, ms_go, hC, nI_add, pk_mul, pk_sub, zn_lt, zn_eq, zn_lt0, zn_eq0, zn_0lt, zb_0, zb_k, zn_k1, zn_k0, ite_not, Nat.add_zero, Nat.zero_add, Nat.reduceAdd, Nat.reduceSub, Nat.reduceMul, Option.bind_some, Option.bind_none, Option.toList_some, Option.toList_none, List.cons_append, List.nil_append, if_true, if_false, zif_t, zif_f, eq_self, zdig]
  | succ r ih =>
    intro c h1 h2
    have f := fin c h2
    unfold zdig
    by_cases g0 : p + c < len
    · have hb := ht (p + c)
      have hx := htx (p + c) g0
      have hf := zsx_f hb
      by_cases g1 : 48 ≤ t (p + c) ∧ t (p + c) ≤ 57
      · rw [if_pos ⟨g0, g1⟩]
        have hv := zval_le (p := p) ht c
        have e := ih (c + 1) (by omega) (by omega)
        rw [show p + (c + 1) = p + c + 1 by omega] at e
        rw [← Nat.add_assoc c 1]
        have hn := zsx_n (b := t (p + c)) (by omega)
        have hx2 : tx (p + c) = nI (t (p + c)) := hx.trans hn
        have hf2 : lN 48 ≤ (nI (t (p + c))).toInt64 ∧ (nI (t (p + c))).toInt64 ≤ lN 57 := by rw [← hn]; exact hf.mpr g1
        by_cases g2 : c < 3
        · have ev : zval t p (c + 1) = 10 * zval t p c + t (p + c) - 48 := by rw [zval, if_pos g2]; omega
          rw [ev] at e
          rw [q105_4]; simp (disch := first | omega | exact mt_0 hC | assumption) only [q105_0, q105_1, q105_2, q105_3, q105_5, q105_8, q105_9, q105_12, q105_15, q105_16, q105_19, q105_20, q105_23, q105_24, q105_25, q105_28, q105_31, q105_34, q105_37, q105_38, q105_39, q105_42, q105_44, q105_45, q105_46, q105_47, q105_50, q105_51, q105_54, q105_55, q105_56, q105_58, q105_59, q105_62, q105_63, q105_64, q105_67, q105_68, q105_69, q105_72, q105_73, q105_74, q105_77, q105_81, q105_82, q105_83, q105_86, q105_89, q105_92, q105_93, q105_96, q105_97, e_in, hx2, hf2, and_self, mg_0, mg_1, mg_2, mg_3, mg_4, mg_5, mg_6, mg_7, mg_8, mg_9, mg_10, mg_11, mg_12, mg_13, mg_14, mg_15, mg_16, mg_17, mg_18, mg_19, mp_0, mp_2, mp_10, mp_11, mp_12, mp_18, mt_0, ma_tx, ms_tx, ma_td, ms_td, ma_ki, ms_ki, ma_kd, ms_kd, ma_pe, ms_pe, ma_sk, ms_sk, ma_wo, ms_wo, ma_sl, ms_sl, ma_sa, ms_sa, ma_wy, ms_wy, ma_be, ms_be, ma_po, ms_po, ma_mh, ms_mh, ma_go, ms_go, hC, nI_add, pk_mul, pk_sub, zn_lt, zn_eq, zn_lt0, zn_eq0, zn_0lt, zb_0, zb_k, zn_k1, zn_k0, ite_not, Nat.add_zero, Nat.zero_add, Nat.reduceAdd, Nat.reduceSub, Nat.reduceMul, Option.bind_some, Option.bind_none, Option.toList_some, Option.toList_none, List.cons_append, List.nil_append, if_true, if_false, zif_t, zif_f, eq_self]
          exact e
        · have ev : zval t p (c + 1) = zval t p c := by rw [zval, if_neg g2]
          rw [ev] at e
          rw [q105_4]; simp (disch := first | omega | exact mt_0 hC | assumption) only [q105_0, q105_1, q105_2, q105_3, q105_5, q105_8, q105_9, q105_12, q105_15, q105_16, q105_19, q105_20, q105_23, q105_24, q105_25, q105_28, q105_31, q105_34, q105_37, q105_38, q105_39, q105_42, q105_44, q105_45, q105_46, q105_47, q105_50, q105_51, q105_54, q105_55, q105_56, q105_58, q105_59, q105_62, q105_63, q105_64, q105_67, q105_68, q105_69, q105_72, q105_73, q105_74, q105_77, q105_81, q105_82, q105_83, q105_86, q105_89, q105_92, q105_93, q105_96, q105_97, e_in, hx2, hf2, and_self, mg_0, mg_1, mg_2, mg_3, mg_4, mg_5, mg_6, mg_7, mg_8, mg_9, mg_10, mg_11, mg_12, mg_13, mg_14, mg_15, mg_16, mg_17, mg_18, mg_19, mp_0, mp_2, mp_10, mp_11, mp_12, mp_18, mt_0, ma_tx, ms_tx, ma_td, ms_td, ma_ki, ms_ki, ma_kd, ms_kd, ma_pe, ms_pe, ma_sk, ms_sk, ma_wo, ms_wo, ma_sl, ms_sl, ma_sa, ms_sa, ma_wy, ms_wy, ma_be, ms_be, ma_po, ms_po, ma_mh, ms_mh, ma_go, ms_go, hC, nI_add, pk_mul, pk_sub, zn_lt, zn_eq, zn_lt0, zn_eq0, zn_0lt, zb_0, zb_k, zn_k1, zn_k0, ite_not, Nat.add_zero, Nat.zero_add, Nat.reduceAdd, Nat.reduceSub, Nat.reduceMul, Option.bind_some, Option.bind_none, Option.toList_some, Option.toList_none, List.cons_append, List.nil_append, if_true, if_false, zif_t, zif_f, eq_self]
          exact e
      · rw [if_neg (fun q => g1 q.2)]
        rw [q105_4]; simp (disch := first | omega | exact mt_0 hC | assumption) only [q105_0, q105_1, q105_2, q105_3, q105_5, q105_8, q105_9, q105_12, q105_15, q105_16, q105_19, q105_20, q105_23, q105_24, q105_25, q105_28, q105_31, q105_34, q105_37, q105_38, q105_39, q105_42, q105_44, q105_45, q105_46, q105_47, q105_50, q105_51, q105_54, q105_55, q105_56, q105_58, q105_59, q105_62, q105_63, q105_64, q105_67, q105_68, q105_69, q105_72, q105_73, q105_74, q105_77, q105_81, q105_82, q105_83, q105_86, q105_89, q105_92, q105_93, q105_96, q105_97, e_in, hx, hf, g1, f, mg_0, mg_1, mg_2, mg_3, mg_4, mg_5, mg_6, mg_7, mg_8, mg_9, mg_10, mg_11, mg_12, mg_13, mg_14, mg_15, mg_16, mg_17, mg_18, mg_19, mp_0, mp_2, mp_10, mp_11, mp_12, mp_18, mt_0, ma_tx, ms_tx, ma_td, ms_td, ma_ki, ms_ki, ma_kd, ms_kd, ma_pe, ms_pe, ma_sk, ms_sk, ma_wo, ms_wo, ma_sl, ms_sl, ma_sa, ms_sa, ma_wy, ms_wy, ma_be, ms_be, ma_po, ms_po, ma_mh, ms_mh, ma_go, ms_go, hC, nI_add, pk_mul, pk_sub, zn_lt, zn_eq, zn_lt0, zn_eq0, zn_0lt, zb_0, zb_k, zn_k1, zn_k0, ite_not, Nat.add_zero, Nat.zero_add, Nat.reduceAdd, Nat.reduceSub, Nat.reduceMul, Option.bind_some, Option.bind_none, Option.toList_some, Option.toList_none, List.cons_append, List.nil_append, if_true, if_false, zif_t, zif_f, eq_self]
    · rw [if_neg (fun q => g0 q.1)]
      rw [q105_4]; simp (disch := first | omega | exact mt_0 hC | assumption) only [q105_0, q105_1, q105_2, q105_3, q105_5, q105_8, q105_9, q105_12, q105_15, q105_16, q105_19, q105_20, q105_23, q105_24, q105_25, q105_28, q105_31, q105_34, q105_37, q105_38, q105_39, q105_42, q105_44, q105_45, q105_46, q105_47, q105_50, q105_51, q105_54, q105_55, q105_56, q105_58, q105_59, q105_62, q105_63, q105_64, q105_67, q105_68, q105_69, q105_72, q105_73, q105_74, q105_77, q105_81, q105_82, q105_83, q105_86, q105_89, q105_92, q105_93, q105_96, q105_97, f, mg_0, mg_1, mg_2, mg_3, mg_4, mg_5, mg_6, mg_7, mg_8, mg_9, mg_10, mg_11, mg_12, mg_13, mg_14, mg_15, mg_16, mg_17, mg_18, mg_19, mp_0, mp_2, mp_10, mp_11, mp_12, mp_18, mt_0, ma_tx, ms_tx, ma_td, ms_td, ma_ki, ms_ki, ma_kd, ms_kd, ma_pe, ms_pe, ma_sk, ms_sk, ma_wo, ms_wo, ma_sl, ms_sl, ma_sa, ms_sa, ma_wy, ms_wy, ma_be, ms_be, ma_po, ms_po, ma_mh, ms_mh, ma_go, ms_go, hC, nI_add, pk_mul, pk_sub, zn_lt, zn_eq, zn_lt0, zn_eq0, zn_0lt, zb_0, zb_k, zn_k1, zn_k0, ite_not, Nat.add_zero, Nat.zero_add, Nat.reduceAdd, Nat.reduceSub, Nat.reduceMul, Option.bind_some, Option.bind_none, Option.toList_some, Option.toList_none, List.cons_append, List.nil_append, if_true, if_false, zif_t, zif_f, eq_self]
theorem e_number (hC : C.length = 104) (hl : len ≤ 300) (ht : ∀ j, t j < 256) (htx : ∀ j, j < len → tx j = zsx (t j)) (hp : at_ ≤ len) : zev xs L 105 0 [.ref 104, .null, .null] [] (C ++ zM len at_ kep don see fit tx td ki kd pe sk wo sl sa wy be po mh go) = some (some (.int (znumv (zdig t len 300 at_) (zval t at_ (zdig t len 300 at_)))), C ++ zM len (at_ + zdig t len 300 at_) kep don see fit tx td ki kd pe sk wo sl sa wy be po mh go) := by
  have e := l_number (xs := xs) (L := L) (len := len) (kep := kep) (don := don) (see := see) (fit := fit) (tx := tx) (td := td) (ki := ki) (kd := kd) (pe := pe) (sk := sk) (wo := wo) (sl := sl) (sa := sa) (wy := wy) (be := be) (po := po) (mh := mh) (go := go) (C := C) (t := t) hC hl ht htx (p := at_) 300 0 (by omega) (by omega)
  simp only [Nat.add_zero, Nat.zero_add, zval] at e
  simp (disch := first | omega | exact mt_0 hC | assumption) only [q105_0, q105_1, q105_2, q105_3, q105_5, q105_8, q105_9, q105_12, q105_15, q105_16, q105_19, q105_20, q105_23, q105_24, q105_25, q105_28, q105_31, q105_34, q105_37, q105_38, q105_39, q105_42, q105_44, q105_45, q105_46, q105_47, q105_50, q105_51, q105_54, q105_55, q105_56, q105_58, q105_59, q105_62, q105_63, q105_64, q105_67, q105_68, q105_69, q105_72, q105_73, q105_74, q105_77, q105_80, q105_81, q105_82, q105_83, q105_86, q105_89, q105_92, q105_93, q105_96, q105_97, e, mg_0, mg_1, mg_2, mg_3, mg_4, mg_5, mg_6, mg_7, mg_8, mg_9, mg_10, mg_11, mg_12, mg_13, mg_14, mg_15, mg_16, mg_17, mg_18, mg_19, mp_0, mp_2, mp_10, mp_11, mp_12, mp_18, mt_0, ma_tx, ms_tx, ma_td, ms_td, ma_ki, ms_ki, ma_kd, ms_kd, ma_pe, ms_pe, ma_sk, ms_sk, ma_wo, ms_wo, ma_sl, ms_sl, ma_sa, ms_sa, ma_wy, ms_wy, ma_be, ms_be, ma_po, ms_po, ma_mh, ms_mh, ma_go, ms_go, hC, nI_add, pk_mul, pk_sub, zn_lt, zn_eq, zn_lt0, zn_eq0, zn_0lt, zb_0, zb_k, zn_k1, zn_k0, ite_not, Nat.add_zero, Nat.zero_add, Nat.reduceAdd, Nat.reduceSub, Nat.reduceMul, Option.bind_some, Option.bind_none, Option.toList_some, Option.toList_none, List.cons_append, List.nil_append, if_true, if_false, zif_t, zif_f, eq_self]
end
