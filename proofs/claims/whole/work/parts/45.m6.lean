/-! ===== the reference: anew; who would change ===== -/
def zaI (b : Nat) : Int32 := if b = 0 then (-4) else nI ((b - 1) / 5)
def zaJ (b : Nat) : Int32 := if b = 0 then (-4) else nI ((b - 1) % 5)
theorem zaI_s {m k : Nat} (hk : k < 5) : zaI (m * 5 + k + 1) = nI m := by unfold zaI; rw [if_neg (by omega)]; congr 1; omega
theorem zaJ_s {m k : Nat} (hk : k < 5) : zaJ (m * 5 + k + 1) = nI k := by unfold zaJ; rw [if_neg (by omega)]; congr 1; omega
/-- how many ways do all work, the mask m being of the kind k -/
def zV (wk n : Nat) (kf ri sk : Nat → Nat) (m k : Nat) : Nat := zwork wk n (va_up kf m k) ri sk
theorem zup_6 (sl : Nat → Nat) (m x : Nat) : (fun q => va_up sl (6 + m) x (6 + q)) = va_up (fun q => sl (6 + q)) m x := by
  funext q; unfold va_up
  by_cases h : q = m
  · subst h; rw [if_pos rfl, if_pos rfl]
  · rw [if_neg h, if_neg (by omega)]
theorem zup_same {α : Type} (f : Nat → α) (k : Nat) : va_up f k (f k) = f := by
  funext j; unfold va_up
  by_cases h : j = k
  · subst h; rw [if_pos rfl]
  · rw [if_neg h]
theorem zanK_le {V : Nat → Nat → Nat} {m b : Nat} (hV : ∀ k, V m k ≤ b) : ∀ {k : Nat} {s : Nat × Nat}, s.1 ≤ b → (zanK V m k s).1 ≤ b
  | 0, _, h => h
  | k + 1, s, h => by
    unfold zanK
    simp only
    split
    · exact hV k
    · exact zanK_le hV h
theorem zanM_le {V : Nat → Nat → Nat} {kn b : Nat} (hV : ∀ m k, V m k ≤ b) : ∀ {m : Nat} {s : Nat × Nat}, s.1 ≤ b → (zanM V kn m s).1 ≤ b
  | 0, _, h => h
  | m + 1, s, h => zanK_le (hV m) (zanM_le hV h)
def zoi (o : Option Nat) : Int32 := match o with
  | none => (-4)
  | some q => nI q
/-- two who would change: lc the locked kinds, wo what is worth what, kk the kinds worn -/
abbrev zlk (lc : Nat) (wo kk : Nat → Nat) (i j : Nat) : Prop := lc / 2 ^ kk i % 2 = 0 ∧ lc / 2 ^ kk j % 2 = 0 ∧ wo (5 * i + kk i) < wo (5 * i + kk j) ∧ wo (5 * j + kk j) < wo (5 * j + kk i)
def zfst (f : Nat → Bool) : Nat → Nat → Option Nat
  | 0, _ => none
  | r + 1, j => if f j = true then some j else zfst f r (j + 1)
def zfsP (f : Nat → Nat → Bool) (n : Nat) : Nat → Nat → Option Nat
  | 0, _ => none
  | r + 1, i => match zfst (f i) (n - (i + 1)) (i + 1) with
    | some j => some (10 * i + j)
    | none => zfsP f n r (i + 1)
def zcnt (f : Nat → Bool) : Nat → Nat → Nat
  | 0, _ => 0
  | r + 1, j => (if f j = true then 1 else 0) + zcnt f r (j + 1)
def zcnP (f : Nat → Nat → Bool) (n : Nat) : Nat → Nat → Nat
  | 0, _ => 0
  | r + 1, i => zcnt (f i) (n - (i + 1)) (i + 1) + zcnP f n r (i + 1)
def zlb (lc : Nat) (wo kk : Nat → Nat) (i j : Nat) : Bool := decide (zlk lc wo kk i j)
theorem zfst_lt {f : Nat → Bool} : ∀ {r j q : Nat}, zfst f r j = some q → j ≤ q ∧ q < j + r
  | 0, _, _, h => by cases h
  | r + 1, j, q, h => by
    unfold zfst at h
    split at h
    · cases h; omega
    · have := zfst_lt h; omega
theorem zfsP_lt {f : Nat → Nat → Bool} {n : Nat} : ∀ {r i q : Nat}, i + r ≤ n → zfsP f n r i = some q → ∃ a b, q = 10 * a + b ∧ a < b ∧ b < n ∧ f a b = true
  | 0, _, _, _, h => by cases h
  | r + 1, i, q, hn, h => by
    unfold zfsP at h
    split at h
    · next j hj =>
      cases h
      have hl := zfst_lt hj
      refine ⟨i, j, rfl, by omega, by omega, ?_⟩
      clear hl hn
      revert hj
      generalize n - (i + 1) = r2
      generalize i + 1 = j0
      intro hj
      induction r2 generalizing j0 with
      | zero => cases hj
      | succ r2 ih =>
        unfold zfst at hj
        split at hj
        · next hf => cases hj; exact hf
        · exact ih _ hj
    · exact zfsP_lt (by omega) h
section
variable {xs : Nat → Int32} {L : Nat} {C h : ZH} {len at_ kep don see : Nat} {fit : Int32} {tx : Nat → Int32} {td ki kd pe sk wo sl sa wy be po mh : Nat → Nat} {go : Nat → Int32} 
theorem l_anK (hC : C.length = 104) (hP : 1 ≤ pe 0 ∧ pe 0 ≤ 6) (hK : ki 0 ≤ 5) (hk : ∀ m, m < 6 → sl (6 + m) < 5) (hs : ∀ i, i < pe 0 → sk i < 64) (ht : td 0 < 64) {m : Nat} (hm : m < 6) {v1 v6 : Value} {s0 : Nat × Nat} (h0 : s0.1 ≤ 720) {R : Option (Option Value × ZH)} {V : Nat → Nat → Nat} (hV : V = zV (td 0) (pe 0) (fun m => sl (6 + m)) (fun k => kd (3 * k)) sk)
    (hR : ∀ (x : Nat) (v8 : Value), zev xs L 139 129 [.ref 104, v1, .int (nI (zanK V m (ki 0) s0).1), .int (zaI (zanK V m (ki 0) s0).2), .int (zaJ (zanK V m (ki 0) s0).2), .int (nI m), v6, .int (nI (ki 0)), v8] [] (C ++ zM len at_ kep don see fit tx td ki kd pe sk wo (va_up sl (6 + m) x) sa (zwe (pe 0)) be po mh go) = R) :
    ∀ (r k x : Nat) (v8 : Value), k + r = ki 0 → zev xs L 139 53 [.ref 104, v1, .int (nI (zanK V m k s0).1), .int (zaI (zanK V m k s0).2), .int (zaJ (zanK V m k s0).2), .int (nI m), v6, .int (nI k), v8] [] (C ++ zM len at_ kep don see fit tx td ki kd pe sk wo (va_up sl (6 + m) x) sa (zwe (pe 0)) be po mh go) = R := by
  have hVl : ∀ m k, V m k ≤ 720 := fun m k => by rw [hV]; exact Nat.le_trans (zwork_le hP.2) (zfac_le hP.2)
  intro r
  induction r with
  | zero => intro k x v8 hkr; obtain rfl : k = ki 0 := by omega
            rw [← hR x v8, q139_53]; simp (disch := first | omega | exact mt_0 hC) only [q139_0, q139_1, q139_2, q139_3, q139_4, q139_7, q139_10, q139_11, q139_12, q139_13, q139_16, q139_17, q139_19, q139_20, q139_22, q139_24, q139_25, q139_29, q139_30, q139_33, q139_34, q139_35, q139_38, q139_39, q139_42, q139_44, q139_46, q139_47, q139_48, q139_50, q139_51, q139_55, q139_56, q139_59, q139_60, q139_61, q139_64, q139_65, q139_68, q139_70, q139_72, q139_73, q139_75, q139_76, q139_77, q139_80, q139_82, q139_84, q139_85, q139_88, q139_90, q139_93, q139_94, q139_95, q139_97, q139_98, q139_101, q139_103, q139_106, q139_108, q139_110, q139_112, q139_113, q139_116, q139_118, q139_121, q139_122, q139_123, q139_126, q139_130, q139_133, q139_135, q139_137, q139_138, q139_140, q139_141, q139_144, q139_147, q139_148, q139_151, q139_152, q139_155, q139_157, mg_0, mg_1, mg_2, mg_3, mg_4, mg_5, mg_6, mg_7, mg_8, mg_9, mg_10, mg_11, mg_12, mg_13, mg_14, mg_15, mg_16, mg_17, mg_18, mg_19, mp_0, mp_2, mp_10, mp_11, mp_12, mp_18, mt_0, ma_tx, ms_tx, ma_td, ms_td, ma_ki, ms_ki, ma_kd, ms_kd, ma_pe, ms_pe, ma_sk, ms_sk, ma_wo, ms_wo, ma_sl, ms_sl, ma_sa, ms_sa, ma_wy, ms_wy, ma_be, ms_be, ma_po, ms_po, ma_mh, ms_mh, ma_go, ms_go, hC, nI_add, pk_mul, pk_sub, zn_lt, zn_eq, zn_lt0, zn_eq0, zn_0lt, zb_0, zb_k, zn_k1, zn_k0, ite_not, Nat.add_zero, Nat.zero_add, Nat.reduceAdd, Nat.reduceSub, Nat.reduceMul, Option.bind_some, Option.bind_none, Option.toList_some, Option.toList_none, List.cons_append, List.nil_append, if_true, if_false, zif_t, zif_f, eq_self]
  | succ r ih =>
    intro k x v8 hkr
    have hkb : ∀ q, q < 6 → va_up sl (6 + m) k (6 + q) < 5 := by
      intro q hq
      by_cases h1 : 6 + q = 6 + m
      · rw [h1, va_up_self]; omega
      · rw [va_up_ne _ _ h1]; exact hk q hq
    have hl := zanK_le (V := V) (m := m) (hVl m) (k := k) h0
    have hVk := hVl m k
    have ew := e_working (xs := xs) (L := L) (C := C) (len := len) (at_ := at_) (kep := kep) (don := don) (see := see) (fit := fit) (tx := tx) (td := td) (ki := ki) (kd := kd) (pe := pe) (sk := sk) (wo := wo) (sl := va_up sl (6 + m) k) (sa := sa) (wy := zwe (pe 0)) (be := be) (po := po) (mh := mh) (go := go) hC hP hkb hs ht
    have eV : zwork (td 0) (pe 0) (fun q => va_up sl (6 + m) k (6 + q)) (fun k => kd (3 * k)) sk = V m k := by rw [hV, zup_6]; rfl
    rw [eV] at ew
    rw [q139_53]; simp (disch := first | omega | exact mt_0 hC) only [q139_0, q139_1, q139_2, q139_3, q139_4, q139_7, q139_10, q139_11, q139_12, q139_13, q139_16, q139_17, q139_19, q139_20, q139_22, q139_24, q139_25, q139_29, q139_30, q139_33, q139_34, q139_35, q139_38, q139_39, q139_42, q139_44, q139_46, q139_47, q139_48, q139_50, q139_51, q139_55, q139_56, q139_59, q139_60, q139_61, q139_64, q139_65, q139_68, q139_70, q139_72, q139_73, q139_75, q139_76, q139_77, q139_80, q139_82, q139_84, q139_85, q139_88, q139_90, q139_93, q139_94, q139_95, q139_97, q139_98, q139_101, q139_103, q139_106, q139_108, q139_110, q139_112, q139_113, q139_116, q139_118, q139_121, q139_122, q139_123, q139_126, q139_129, q139_130, q139_133, q139_135, q139_137, q139_138, q139_140, q139_141, q139_144, q139_147, q139_148, q139_151, q139_152, q139_155, q139_157, ew, bx_uu, mg_0, mg_1, mg_2, mg_3, mg_4, mg_5, mg_6, mg_7, mg_8, mg_9, mg_10, mg_11, mg_12, mg_13, mg_14, mg_15, mg_16, mg_17, mg_18, mg_19, mp_0, mp_2, mp_10, mp_11, mp_12, mp_18, mt_0, ma_tx, ms_tx, ma_td, ms_td, ma_ki, ms_ki, ma_kd, ms_kd, ma_pe, ms_pe, ma_sk, ms_sk, ma_wo, ms_wo, ma_sl, ms_sl, ma_sa, ms_sa, ma_wy, ms_wy, ma_be, ms_be, ma_po, ms_po, ma_mh, ms_mh, ma_go, ms_go, hC, nI_add, pk_mul, pk_sub, zn_lt, zn_eq, zn_lt0, zn_eq0, zn_0lt, zb_0, zb_k, zn_k1, zn_k0, ite_not, Nat.add_zero, Nat.zero_add, Nat.reduceAdd, Nat.reduceSub, Nat.reduceMul, Option.bind_some, Option.bind_none, Option.toList_some, Option.toList_none, List.cons_append, List.nil_append, if_true, if_false, zif_t, zif_f, eq_self]
    have e := ih (k + 1) k (.int (nI (V m k))) (by omega)
    by_cases hh : (zanK V m k s0).1 < V m k
    · have e2 : zanK V m (k + 1) s0 = (V m k, m * 5 + k + 1) := by rw [zanK]; exact if_pos hh
      rw [e2] at e
      simp only [zaI_s (show k < 5 by omega), zaJ_s (show k < 5 by omega)] at e
      simp (disch := first | omega | exact mt_0 hC) only [q139_0, q139_1, q139_2, q139_3, q139_4, q139_7, q139_10, q139_11, q139_12, q139_13, q139_16, q139_17, q139_19, q139_20, q139_22, q139_24, q139_25, q139_29, q139_30, q139_33, q139_34, q139_35, q139_38, q139_39, q139_42, q139_44, q139_46, q139_47, q139_48, q139_50, q139_51, q139_55, q139_56, q139_59, q139_60, q139_61, q139_64, q139_65, q139_68, q139_70, q139_72, q139_73, q139_75, q139_76, q139_77, q139_80, q139_82, q139_84, q139_85, q139_88, q139_90, q139_93, q139_94, q139_95, q139_97, q139_98, q139_101, q139_103, q139_106, q139_108, q139_110, q139_112, q139_113, q139_116, q139_118, q139_121, q139_122, q139_123, q139_126, q139_129, q139_130, q139_133, q139_135, q139_137, q139_138, q139_140, q139_141, q139_144, q139_147, q139_148, q139_151, q139_152, q139_155, q139_157, hh, mg_0, mg_1, mg_2, mg_3, mg_4, mg_5, mg_6, mg_7, mg_8, mg_9, mg_10, mg_11, mg_12, mg_13, mg_14, mg_15, mg_16, mg_17, mg_18, mg_19, mp_0, mp_2, mp_10, mp_11, mp_12, mp_18, mt_0, ma_tx, ms_tx, ma_td, ms_td, ma_ki, ms_ki, ma_kd, ms_kd, ma_pe, ms_pe, ma_sk, ms_sk, ma_wo, ms_wo, ma_sl, ms_sl, ma_sa, ms_sa, ma_wy, ms_wy, ma_be, ms_be, ma_po, ms_po, ma_mh, ms_mh, ma_go, ms_go, hC, nI_add, pk_mul, pk_sub, zn_lt, zn_eq, zn_lt0, zn_eq0, zn_0lt, zb_0, zb_k, zn_k1, zn_k0, ite_not, Nat.add_zero, Nat.zero_add, Nat.reduceAdd, Nat.reduceSub, Nat.reduceMul, Option.bind_some, Option.bind_none, Option.toList_some, Option.toList_none, List.cons_append, List.nil_append, if_true, if_false, zif_t, zif_f, eq_self]
      exact e
    · have e2 : zanK V m (k + 1) s0 = zanK V m k s0 := by rw [zanK]; exact if_neg hh
      rw [e2] at e
      simp (disch := first | omega | exact mt_0 hC) only [q139_0, q139_1, q139_2, q139_3, q139_4, q139_7, q139_10, q139_11, q139_12, q139_13, q139_16, q139_17, q139_19, q139_20, q139_22, q139_24, q139_25, q139_29, q139_30, q139_33, q139_34, q139_35, q139_38, q139_39, q139_42, q139_44, q139_46, q139_47, q139_48, q139_50, q139_51, q139_55, q139_56, q139_59, q139_60, q139_61, q139_64, q139_65, q139_68, q139_70, q139_72, q139_73, q139_75, q139_76, q139_77, q139_80, q139_82, q139_84, q139_85, q139_88, q139_90, q139_93, q139_94, q139_95, q139_97, q139_98, q139_101, q139_103, q139_106, q139_108, q139_110, q139_112, q139_113, q139_116, q139_118, q139_121, q139_122, q139_123, q139_126, q139_129, q139_130, q139_133, q139_135, q139_137, q139_138, q139_140, q139_141, q139_144, q139_147, q139_148, q139_151, q139_152, q139_155, q139_157, hh, mg_0, mg_1, mg_2, mg_3, mg_4, mg_5, mg_6, mg_7, mg_8, mg_9, mg_10, mg_11, mg_12, mg_13, mg_14, mg_15, mg_16, mg_17, mg_18, mg_19, mp_0, mp_2, mp_10, mp_11, mp_12, mp_18, mt_0, ma_tx, ms_tx, ma_td, ms_td, ma_ki, ms_ki, ma_kd, ms_kd, ma_pe, ms_pe, ma_sk, ms_sk, ma_wo, ms_wo, ma_sl, ms_sl, ma_sa, ms_sa, ma_wy, ms_wy, ma_be, ms_be, ma_po, ms_po, ma_mh, ms_mh, ma_go, ms_go, hC, nI_add, pk_mul, pk_sub, zn_lt, zn_eq, zn_lt0, zn_eq0, zn_0lt, zb_0, zb_k, zn_k1, zn_k0, ite_not, Nat.add_zero, Nat.zero_add, Nat.reduceAdd, Nat.reduceSub, Nat.reduceMul, Option.bind_some, Option.bind_none, Option.toList_some, Option.toList_none, List.cons_append, List.nil_append, if_true, if_false, zif_t, zif_f, eq_self]
      exact e
theorem l_anM (hC : C.length = 104) (hP : 1 ≤ pe 0 ∧ pe 0 ≤ 6) (hK : ki 0 ≤ 5) (hk : ∀ m, m < 6 → sl (6 + m) < 5) (hs : ∀ i, i < pe 0 → sk i < 64) (ht : td 0 < 64) {v1 : Value} {s0 : Nat × Nat} (h0 : s0.1 ≤ 720) {R : Option (Option Value × ZH)} {V : Nat → Nat → Nat} (hV : V = zV (td 0) (pe 0) (fun m => sl (6 + m)) (fun k => kd (3 * k)) sk)
    (hR : ∀ (v6 v7 v8 : Value), zev xs L 139 147 [.ref 104, v1, .int (nI (zanM V (ki 0) (pe 0) s0).1), .int (zaI (zanM V (ki 0) (pe 0) s0).2), .int (zaJ (zanM V (ki 0) (pe 0) s0).2), .int (nI (pe 0)), v6, v7, v8] [] (C ++ zM len at_ kep don see fit tx td ki kd pe sk wo sl sa (zwe (pe 0)) be po mh go) = R) :
    ∀ (r m : Nat) (v6 v7 v8 : Value), m + r = pe 0 → zev xs L 139 27 [.ref 104, v1, .int (nI (zanM V (ki 0) m s0).1), .int (zaI (zanM V (ki 0) m s0).2), .int (zaJ (zanM V (ki 0) m s0).2), .int (nI m), v6, v7, v8] [] (C ++ zM len at_ kep don see fit tx td ki kd pe sk wo sl sa (zwe (pe 0)) be po mh go) = R := by
  have hVl : ∀ m k, V m k ≤ 720 := fun m k => by rw [hV]; exact Nat.le_trans (zwork_le hP.2) (zfac_le hP.2)
  intro r
  induction r with
  | zero => intro m v6 v7 v8 hm; obtain rfl : m = pe 0 := by omega
            rw [← hR v6 v7 v8, q139_27]; simp (disch := first | omega | exact mt_0 hC) only [q139_0, q139_1, q139_2, q139_3, q139_4, q139_7, q139_10, q139_11, q139_12, q139_13, q139_16, q139_17, q139_19, q139_20, q139_22, q139_24, q139_25, q139_29, q139_30, q139_33, q139_34, q139_35, q139_38, q139_39, q139_42, q139_44, q139_46, q139_47, q139_48, q139_50, q139_51, q139_55, q139_56, q139_59, q139_60, q139_61, q139_64, q139_65, q139_68, q139_70, q139_72, q139_73, q139_75, q139_76, q139_77, q139_80, q139_82, q139_84, q139_85, q139_88, q139_90, q139_93, q139_94, q139_95, q139_97, q139_98, q139_101, q139_103, q139_106, q139_108, q139_110, q139_112, q139_113, q139_116, q139_118, q139_121, q139_122, q139_123, q139_126, q139_129, q139_130, q139_133, q139_135, q139_137, q139_138, q139_140, q139_141, q139_144, q139_148, q139_151, q139_152, q139_155, q139_157, mg_0, mg_1, mg_2, mg_3, mg_4, mg_5, mg_6, mg_7, mg_8, mg_9, mg_10, mg_11, mg_12, mg_13, mg_14, mg_15, mg_16, mg_17, mg_18, mg_19, mp_0, mp_2, mp_10, mp_11, mp_12, mp_18, mt_0, ma_tx, ms_tx, ma_td, ms_td, ma_ki, ms_ki, ma_kd, ms_kd, ma_pe, ms_pe, ma_sk, ms_sk, ma_wo, ms_wo, ma_sl, ms_sl, ma_sa, ms_sa, ma_wy, ms_wy, ma_be, ms_be, ma_po, ms_po, ma_mh, ms_mh, ma_go, ms_go, hC, nI_add, pk_mul, pk_sub, zn_lt, zn_eq, zn_lt0, zn_eq0, zn_0lt, zb_0, zb_k, zn_k1, zn_k0, ite_not, Nat.add_zero, Nat.zero_add, Nat.reduceAdd, Nat.reduceSub, Nat.reduceMul, Option.bind_some, Option.bind_none, Option.toList_some, Option.toList_none, List.cons_append, List.nil_append, if_true, if_false, zif_t, zif_f, eq_self]
  | succ r ih =>
    intro m v6 v7 v8 hm
    rw [q139_27]; simp (disch := first | omega | exact mt_0 hC) only [q139_0, q139_1, q139_2, q139_3, q139_4, q139_7, q139_10, q139_11, q139_12, q139_13, q139_16, q139_17, q139_19, q139_20, q139_22, q139_24, q139_25, q139_29, q139_30, q139_33, q139_34, q139_35, q139_38, q139_39, q139_42, q139_44, q139_46, q139_47, q139_48, q139_50, q139_51, q139_55, q139_56, q139_59, q139_60, q139_61, q139_64, q139_65, q139_68, q139_70, q139_72, q139_73, q139_75, q139_76, q139_77, q139_80, q139_82, q139_84, q139_85, q139_88, q139_90, q139_93, q139_94, q139_95, q139_97, q139_98, q139_101, q139_103, q139_106, q139_108, q139_110, q139_112, q139_113, q139_116, q139_118, q139_121, q139_122, q139_123, q139_126, q139_129, q139_130, q139_133, q139_135, q139_137, q139_138, q139_140, q139_141, q139_144, q139_147, q139_148, q139_151, q139_152, q139_155, q139_157, mg_0, mg_1, mg_2, mg_3, mg_4, mg_5, mg_6, mg_7, mg_8, mg_9, mg_10, mg_11, mg_12, mg_13, mg_14, mg_15, mg_16, mg_17, mg_18, mg_19, mp_0, mp_2, mp_10, mp_11, mp_12, mp_18, mt_0, ma_tx, ms_tx, ma_td, ms_td, ma_ki, ms_ki, ma_kd, ms_kd, ma_pe, ms_pe, ma_sk, ms_sk, ma_wo, ms_wo, ma_sl, ms_sl, ma_sa, ms_sa, ma_wy, ms_wy, ma_be, ms_be, ma_po, ms_po, ma_mh, ms_mh, ma_go, ms_go, hC, nI_add, pk_mul, pk_sub, zn_lt, zn_eq, zn_lt0, zn_eq0, zn_0lt, zb_0, zb_k, zn_k1, zn_k0, ite_not, Nat.add_zero, Nat.zero_add, Nat.reduceAdd, Nat.reduceSub, Nat.reduceMul, Option.bind_some, Option.bind_none, Option.toList_some, Option.toList_none, List.cons_append, List.nil_append, if_true, if_false, zif_t, zif_f, eq_self]
    have e := l_anK (xs := xs) (L := L) (len := len) (at_ := at_) (kep := kep) (don := don) (see := see) (fit := fit) (tx := tx) (td := td) (ki := ki) (kd := kd) (pe := pe) (sk := sk) (wo := wo) (sl := sl) (sa := sa) (be := be) (po := po) (mh := mh) (go := go) hC hP hK hk hs ht (m := m) (by omega) (v1 := v1) (v6 := .int (nI (sl (6 + m)))) (s0 := zanM V (ki 0) m s0) (zanM_le hVl h0) hV (R := R) (fun x w8 => by
      simp (disch := first | omega | exact mt_0 hC) only [q139_0, q139_1, q139_2, q139_3, q139_4, q139_7, q139_10, q139_11, q139_12, q139_13, q139_16, q139_17, q139_19, q139_20, q139_22, q139_24, q139_25, q139_29, q139_30, q139_33, q139_34, q139_35, q139_38, q139_39, q139_42, q139_44, q139_46, q139_47, q139_48, q139_50, q139_51, q139_55, q139_56, q139_59, q139_60, q139_61, q139_64, q139_65, q139_68, q139_70, q139_72, q139_73, q139_75, q139_76, q139_77, q139_80, q139_82, q139_84, q139_85, q139_88, q139_90, q139_93, q139_94, q139_95, q139_97, q139_98, q139_101, q139_103, q139_106, q139_108, q139_110, q139_112, q139_113, q139_116, q139_118, q139_121, q139_122, q139_123, q139_126, q139_129, q139_130, q139_133, q139_135, q139_137, q139_138, q139_140, q139_141, q139_144, q139_147, q139_148, q139_151, q139_152, q139_155, q139_157, mg_0, mg_1, mg_2, mg_3, mg_4, mg_5, mg_6, mg_7, mg_8, mg_9, mg_10, mg_11, mg_12, mg_13, mg_14, mg_15, mg_16, mg_17, mg_18, mg_19, mp_0, mp_2, mp_10, mp_11, mp_12, mp_18, mt_0, ma_tx, ms_tx, ma_td, ms_td, ma_ki, ms_ki, ma_kd, ms_kd, ma_pe, ms_pe, ma_sk, ms_sk, ma_wo, ms_wo, ma_sl, ms_sl, ma_sa, ms_sa, ma_wy, ms_wy, ma_be, ms_be, ma_po, ms_po, ma_mh, ms_mh, ma_go, ms_go, hC, nI_add, pk_mul, pk_sub, zn_lt, zn_eq, zn_lt0, zn_eq0, zn_0lt, zb_0, zb_k, zn_k1, zn_k0, ite_not, Nat.add_zero, Nat.zero_add, Nat.reduceAdd, Nat.reduceSub, Nat.reduceMul, Option.bind_some, Option.bind_none, Option.toList_some, Option.toList_none, List.cons_append, List.nil_append, if_true, if_false, zif_t, zif_f, eq_self]
      rw [zup_id]
      exact ih (m + 1) _ _ _ (by omega)) (ki 0) 0 (sl (6 + m)) v8 (by omega)
    rw [zup_same] at e
    exact e
theorem e_anew (hC : C.length = 104) (hP : 1 ≤ pe 0 ∧ pe 0 ≤ 6) (hK : ki 0 ≤ 5) (hk : ∀ m, m < 6 → sl (6 + m) < 5) (hs : ∀ i, i < pe 0 → sk i < 64) (ht : td 0 < 64) {c : Nat} (hc : c < 2) {b : Nat} (hb : b = (zanM (zV (td 0) (pe 0) (fun m => sl (6 + m)) (fun k => kd (3 * k)) sk) (ki 0) (pe 0) (zwork (td 0) (pe 0) (fun m => sl (6 + m)) (fun k => kd (3 * k)) sk, 0)).2) : zev xs L 139 0 [.ref 104, .int (nI c), .null, .null, .null, .null, .null, .null, .null] [] (C ++ zM len at_ kep don see fit tx td ki kd pe sk wo sl sa wy be po mh go) = some (some (.int (if c = 0 then zaI b else zaJ b)), C ++ zM len at_ kep don see fit tx td ki kd pe sk wo sl sa (zwe (pe 0)) be po mh go) := by
  have e1 : zb (lN 0 ≤ (nI c).toInt64 ∧ (nI c).toInt64 ≤ lN 1) = nI 1 := zb_t (by rw [zin_2 (by decide) (by decide), nI_toInt (by omega)]; omega)
  have hw := Nat.le_trans (zwork_le (wk := td 0) (kf := fun m => sl (6 + m)) (ri := fun k => kd (3 * k)) (sk := sk) hP.2) (zfac_le hP.2)
  simp (disch := first | omega | exact mt_0 hC | assumption) only [q139_0, q139_1, q139_2, q139_3, q139_4, q139_7, q139_10, q139_11, q139_12, q139_13, q139_16, q139_17, q139_19, q139_20, q139_22, q139_24, q139_25, q139_29, q139_30, q139_33, q139_34, q139_35, q139_38, q139_39, q139_42, q139_44, q139_46, q139_47, q139_48, q139_50, q139_51, q139_53, q139_55, q139_56, q139_59, q139_60, q139_61, q139_64, q139_65, q139_68, q139_70, q139_72, q139_73, q139_75, q139_76, q139_77, q139_80, q139_82, q139_84, q139_85, q139_88, q139_90, q139_93, q139_94, q139_95, q139_97, q139_98, q139_101, q139_103, q139_106, q139_108, q139_110, q139_112, q139_113, q139_116, q139_118, q139_121, q139_122, q139_123, q139_126, q139_129, q139_130, q139_133, q139_135, q139_137, q139_138, q139_140, q139_141, q139_144, q139_147, q139_148, q139_151, q139_152, q139_155, q139_157, e_in, e1, e_working, mg_0, mg_1, mg_2, mg_3, mg_4, mg_5, mg_6, mg_7, mg_8, mg_9, mg_10, mg_11, mg_12, mg_13, mg_14, mg_15, mg_16, mg_17, mg_18, mg_19, mp_0, mp_2, mp_10, mp_11, mp_12, mp_18, mt_0, ma_tx, ms_tx, ma_td, ms_td, ma_ki, ms_ki, ma_kd, ms_kd, ma_pe, ms_pe, ma_sk, ms_sk, ma_wo, ms_wo, ma_sl, ms_sl, ma_sa, ms_sa, ma_wy, ms_wy, ma_be, ms_be, ma_po, ms_po, ma_mh, ms_mh, ma_go, ms_go, hC, nI_add, pk_mul, pk_sub, zn_lt, zn_eq, zn_lt0, zn_eq0, zn_0lt, zb_0, zb_k, zn_k1, zn_k0, ite_not, Nat.add_zero, Nat.zero_add, Nat.reduceAdd, Nat.reduceSub, Nat.reduceMul, Option.bind_some, Option.bind_none, Option.toList_some, Option.toList_none, List.cons_append, List.nil_append, if_true, if_false, zif_t, zif_f, eq_self]
  refine l_anM (xs := xs) (L := L) (len := len) (at_ := at_) (kep := kep) (don := don) (see := see) (fit := fit) (tx := tx) (td := td) (ki := ki) (kd := kd) (pe := pe) (sk := sk) (wo := wo) (sl := sl) (sa := sa) (be := be) (po := po) (mh := mh) (go := go) hC hP hK hk hs ht (s0 := (zwork (td 0) (pe 0) (fun m => sl (6 + m)) (fun k => kd (3 * k)) sk, 0)) hw rfl (fun v6 v7 v8 => ?_) (pe 0) 0 .null .null .null (by omega)
  rw [← hb]
  by_cases h0 : c = 0
  · subst h0
    simp (disch := first | omega | exact mt_0 hC | assumption) only [q139_0, q139_1, q139_2, q139_3, q139_4, q139_7, q139_10, q139_11, q139_12, q139_13, q139_16, q139_17, q139_19, q139_20, q139_22, q139_24, q139_25, q139_29, q139_30, q139_33, q139_34, q139_35, q139_38, q139_39, q139_42, q139_44, q139_46, q139_47, q139_48, q139_50, q139_51, q139_53, q139_55, q139_56, q139_59, q139_60, q139_61, q139_64, q139_65, q139_68, q139_70, q139_72, q139_73, q139_75, q139_76, q139_77, q139_80, q139_82, q139_84, q139_85, q139_88, q139_90, q139_93, q139_94, q139_95, q139_97, q139_98, q139_101, q139_103, q139_106, q139_108, q139_110, q139_112, q139_113, q139_116, q139_118, q139_121, q139_122, q139_123, q139_126, q139_129, q139_130, q139_133, q139_135, q139_137, q139_138, q139_140, q139_141, q139_144, q139_147, q139_148, q139_151, q139_152, q139_155, q139_157, mg_0, mg_1, mg_2, mg_3, mg_4, mg_5, mg_6, mg_7, mg_8, mg_9, mg_10, mg_11, mg_12, mg_13, mg_14, mg_15, mg_16, mg_17, mg_18, mg_19, mp_0, mp_2, mp_10, mp_11, mp_12, mp_18, mt_0, ma_tx, ms_tx, ma_td, ms_td, ma_ki, ms_ki, ma_kd, ms_kd, ma_pe, ms_pe, ma_sk, ms_sk, ma_wo, ms_wo, ma_sl, ms_sl, ma_sa, ms_sa, ma_wy, ms_wy, ma_be, ms_be, ma_po, ms_po, ma_mh, ms_mh, ma_go, ms_go, hC, nI_add, pk_mul, pk_sub, zn_lt, zn_eq, zn_lt0, zn_eq0, zn_0lt, zb_0, zb_k, zn_k1, zn_k0, ite_not, Nat.add_zero, Nat.zero_add, Nat.reduceAdd, Nat.reduceSub, Nat.reduceMul, Option.bind_some, Option.bind_none, Option.toList_some, Option.toList_none, List.cons_append, List.nil_append, if_true, if_false, zif_t, zif_f, eq_self]
  · simp (disch := first | omega | exact mt_0 hC | assumption) only [q139_0, q139_1, q139_2, q139_3, q139_4, q139_7, q139_10, q139_11, q139_12, q139_13, q139_16, q139_17, q139_19, q139_20, q139_22, q139_24, q139_25, q139_29, q139_30, q139_33, q139_34, q139_35, q139_38, q139_39, q139_42, q139_44, q139_46, q139_47, q139_48, q139_50, q139_51, q139_53, q139_55, q139_56, q139_59, q139_60, q139_61, q139_64, q139_65, q139_68, q139_70, q139_72, q139_73, q139_75, q139_76, q139_77, q139_80, q139_82, q139_84, q139_85, q139_88, q139_90, q139_93, q139_94, q139_95, q139_97, q139_98, q139_101, q139_103, q139_106, q139_108, q139_110, q139_112, q139_113, q139_116, q139_118, q139_121, q139_122, q139_123, q139_126, q139_129, q139_130, q139_133, q139_135, q139_137, q139_138, q139_140, q139_141, q139_144, q139_147, q139_148, q139_151, q139_152, q139_155, q139_157, h0, mg_0, mg_1, mg_2, mg_3, mg_4, mg_5, mg_6, mg_7, mg_8, mg_9, mg_10, mg_11, mg_12, mg_13, mg_14, mg_15, mg_16, mg_17, mg_18, mg_19, mp_0, mp_2, mp_10, mp_11, mp_12, mp_18, mt_0, ma_tx, ms_tx, ma_td, ms_td, ma_ki, ms_ki, ma_kd, ms_kd, ma_pe, ms_pe, ma_sk, ms_sk, ma_wo, ms_wo, ma_sl, ms_sl, ma_sa, ms_sa, ma_wy, ms_wy, ma_be, ms_be, ma_po, ms_po, ma_mh, ms_mh, ma_go, ms_go, hC, nI_add, pk_mul, pk_sub, zn_lt, zn_eq, zn_lt0, zn_eq0, zn_0lt, zb_0, zb_k, zn_k1, zn_k0, ite_not, Nat.add_zero, Nat.zero_add, Nat.reduceAdd, Nat.reduceSub, Nat.reduceMul, Option.bind_some, Option.bind_none, Option.toList_some, Option.toList_none, List.cons_append, List.nil_append, if_true, if_false, zif_t, zif_f, eq_self]
theorem e_anew_bad {i : Int32} (hi : ¬ (0 ≤ i.toInt ∧ i.toInt ≤ 1)) : zev xs L 139 0 [.ref 104, .int i, .null, .null, .null, .null, .null, .null, .null] [] h = some (some (.int (-1)), h) := by
  have e1 : zb (lN 0 ≤ i.toInt64 ∧ i.toInt64 ≤ lN 1) = nI 0 := zb_f (by rw [zin_2 (by decide) (by decide)]; omega)
  simp (disch := omega) only [q139_0, q139_1, q139_2, q139_3, q139_4, q139_7, q139_10, q139_11, q139_12, q139_13, q139_16, q139_17, q139_19, q139_20, q139_22, q139_24, q139_25, q139_29, q139_30, q139_33, q139_34, q139_35, q139_38, q139_39, q139_42, q139_44, q139_46, q139_47, q139_48, q139_50, q139_51, q139_53, q139_55, q139_56, q139_59, q139_60, q139_61, q139_64, q139_65, q139_68, q139_70, q139_72, q139_73, q139_75, q139_76, q139_77, q139_80, q139_82, q139_84, q139_85, q139_88, q139_90, q139_93, q139_94, q139_95, q139_97, q139_98, q139_101, q139_103, q139_106, q139_108, q139_110, q139_112, q139_113, q139_116, q139_118, q139_121, q139_122, q139_123, q139_126, q139_129, q139_130, q139_133, q139_135, q139_137, q139_138, q139_140, q139_141, q139_144, q139_147, q139_148, q139_151, q139_152, q139_155, q139_157, e_in, e1, nI_add, pk_mul, pk_sub, zn_lt, zn_eq, zn_lt0, zn_eq0, zn_0lt, zb_0, zb_k, zn_k1, zn_k0, ite_not, Nat.add_zero, Nat.zero_add, Nat.reduceAdd, Nat.reduceSub, Nat.reduceMul, Option.bind_some, Option.bind_none, Option.toList_some, Option.toList_none, List.cons_append, List.nil_append, if_true, if_false, zif_t, zif_f, eq_self]
theorem e_isLiked (hC : C.length = 104) {s i j : Nat} (hs : s < 12) (hi : i < 6) (hj : j < 6) (hwi : sl (61 * s + i) < 6) (hwj : sl (61 * s + j) < 6) (hki : zkk sl s i < 5) (hkj : zkk sl s j < 5) (ht : td 1 < 64) (hwo : ∀ q, q < 30 → wo q < 10) : zev xs L 140 0 [.ref 104, .int (nI s), .int (nI i), .int (nI j), .null, .null] [] (C ++ zM len at_ kep don see fit tx td ki kd pe sk wo sl sa wy be po mh go) = some (some (.int (zb (zlk (td 1) wo (zkk sl s) i j))), C ++ zM len at_ kep don see fit tx td ki kd pe sk wo sl sa wy be po mh go) := by
  have ei : sl (61 * s + 6 + sl (61 * s + i)) = zkk sl s i := rfl
  have ej : sl (61 * s + 6 + sl (61 * s + j)) = zkk sl s j := rfl
  have w1 := hwo (5 * i + zkk sl s i) (by omega)
  have w2 := hwo (5 * i + zkk sl s j) (by omega)
  have w3 := hwo (5 * j + zkk sl s i) (by omega)
  have w4 := hwo (5 * j + zkk sl s j) (by omega)
  simp (disch := first | omega | exact mt_0 hC | assumption) only [q140_0, q140_1, q140_2, q140_3, q140_6, q140_8, q140_9, q140_10, q140_11, q140_14, q140_16, q140_17, q140_18, q140_19, q140_22, q140_25, q140_26, q140_27, q140_28, q140_31, q140_34, q140_35, q140_38, q140_39, q140_40, q140_41, q140_43, q140_44, q140_45, q140_46, q140_49, q140_50, q140_51, q140_52, q140_54, q140_55, q140_56, q140_59, q140_60, q140_63, q140_64, q140_65, q140_66, q140_68, q140_69, q140_70, q140_71, q140_74, q140_75, q140_76, q140_77, q140_79, q140_80, q140_81, q140_84, q140_85, q140_88, q140_89, e_kindOf, e_mayGo, ei, ej, mg_0, mg_1, mg_2, mg_3, mg_4, mg_5, mg_6, mg_7, mg_8, mg_9, mg_10, mg_11, mg_12, mg_13, mg_14, mg_15, mg_16, mg_17, mg_18, mg_19, mp_0, mp_2, mp_10, mp_11, mp_12, mp_18, mt_0, ma_tx, ms_tx, ma_td, ms_td, ma_ki, ms_ki, ma_kd, ms_kd, ma_pe, ms_pe, ma_sk, ms_sk, ma_wo, ms_wo, ma_sl, ms_sl, ma_sa, ms_sa, ma_wy, ms_wy, ma_be, ms_be, ma_po, ms_po, ma_mh, ms_mh, ma_go, ms_go, hC, nI_add, pk_mul, pk_sub, zn_lt, zn_eq, zn_lt0, zn_eq0, zn_0lt, zb_0, zb_k, zn_k1, zn_k0, ite_not, Nat.add_zero, Nat.zero_add, Nat.reduceAdd, Nat.reduceSub, Nat.reduceMul, Option.bind_some, Option.bind_none, Option.toList_some, Option.toList_none, List.cons_append, List.nil_append, if_true, if_false, zif_t, zif_f, eq_self]
  by_cases h1 : td 1 / 2 ^ zkk sl s i % 2 = 0
  · by_cases h2 : td 1 / 2 ^ zkk sl s j % 2 = 0
    · by_cases h3 : wo (5 * i + zkk sl s i) < wo (5 * i + zkk sl s j)
      · by_cases h4 : wo (5 * j + zkk sl s j) < wo (5 * j + zkk sl s i)
        · simp only [h1, h2, h3, h4, zb, zlk, Option.bind_some, Option.bind_none, Option.toList_some, Option.toList_none, List.cons_append, List.nil_append, if_true, if_false, zif_t, zif_f, eq_self, zn_k1, and_self]
        · simp only [h1, h2, h3, h4, zb, zlk, Option.bind_some, Option.bind_none, Option.toList_some, Option.toList_none, List.cons_append, List.nil_append, if_true, if_false, zif_t, zif_f, eq_self, zn_k0, and_false]
      · simp only [h1, h2, h3, zb, zlk, Option.bind_some, Option.bind_none, Option.toList_some, Option.toList_none, List.cons_append, List.nil_append, if_true, if_false, zif_t, zif_f, eq_self, zn_k0, false_and, and_false]
    · simp only [h1, h2, zb, zlk, Option.bind_some, Option.bind_none, Option.toList_some, Option.toList_none, List.cons_append, List.nil_append, if_true, if_false, zif_t, zif_f, eq_self, zn_k0, false_and, and_false]
  · simp only [h1, zb, zlk, Option.bind_some, Option.bind_none, Option.toList_some, Option.toList_none, List.cons_append, List.nil_append, if_true, if_false, zif_t, zif_f, eq_self, zn_k0, false_and]
end
