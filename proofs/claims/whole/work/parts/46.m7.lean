/-! ===== the reference: changes, rounds ===== -/
/-- all changes that are liked, one after the other: W who wears what -/
def zfW (lc : Nat) (wo kf : Nat → Nat) (n : Nat) (W : Nat → Nat) : Option Nat := zfsP (zlb lc wo (fun i => kf (W i))) n n 0
def zacN (lc : Nat) (wo kf : Nat → Nat) (n : Nat) : Nat → (Nat → Nat) → Nat
  | 0, _ => 0
  | r + 1, W => match zfW lc wo kf n W with
    | none => 0
    | some q => 1 + zacN lc wo kf n r (zsw W (q / 10) (q % 10))
def zacW (lc : Nat) (wo kf : Nat → Nat) (n : Nat) : Nat → (Nat → Nat) → Nat → Nat
  | 0, W => W
  | r + 1, W => match zfW lc wo kf n W with
    | none => W
    | some q => zacW lc wo kf n r (zsw W (q / 10) (q % 10))
def zacT (lc : Nat) (wo kf : Nat → Nat) (n : Nat) : Nat → (Nat → Nat) → Prop
  | 0, W => zfW lc wo kf n W = none
  | r + 1, W => match zfW lc wo kf n W with
    | none => True
    | some q => zacT lc wo kf n r (zsw W (q / 10) (q % 10))
theorem zoi_neg : (zoi none < 0) ↔ True := by decide
theorem zsw_11 {sl : Nat → Nat} {a b : Nat} : (fun i => zsw sl (671 + a) (671 + b) (671 + i)) = zsw (fun i => sl (671 + i)) a b := by
  funext i
  unfold zsw va_up
  by_cases h1 : i = b
  · subst h1; rw [if_pos rfl, if_pos rfl]
  · rw [if_neg h1, if_neg (by omega)]
    by_cases h2 : i = a
    · subst h2; rw [if_pos rfl, if_pos rfl]
    · rw [if_neg h2, if_neg (by omega)]
theorem zsw_11k {sl : Nat → Nat} {a b : Nat} (ha : a < 6) (hb : b < 6) : (fun m => zsw sl (671 + a) (671 + b) (677 + m)) = fun m => sl (677 + m) := by
  funext m
  unfold zsw va_up
  rw [if_neg (by omega), if_neg (by omega)]
/-- the best of all who are left, the first j looked at -/
def zptN (c : Nat → Nat → Bool) (i : Nat) : Nat → Nat
  | 0 => i
  | j + 1 => if c j (zptN c i j) = true then j else zptN c i j
theorem zptN_lt {c : Nat → Nat → Bool} {i n : Nat} (hi : i < n) : ∀ {j : Nat}, j ≤ n → zptN c i j < n
  | 0, _ => hi
  | j + 1, hj => by
    unfold zptN
    split
    · omega
    · exact zptN_lt hi (by omega)
def zptc (lc : Nat) (wo kk : Nat → Nat) (left i : Nat) (j f : Nat) : Bool := decide (left / 2 ^ j % 2 = 1 ∧ lc / 2 ^ kk j % 2 = 0 ∧ wo (5 * i + kk f) < wo (5 * i + kk j))
def zpt (lc : Nat) (wo kk : Nat → Nat) (n left i : Nat) : Nat := if lc / 2 ^ kk i % 2 = 0 then zptN (zptc lc wo kk left i) i n else i
theorem zpt_lt {lc : Nat} {wo kk : Nat → Nat} {n left i : Nat} (hi : i < n) : zpt lc wo kk n left i < n := by
  unfold zpt
  split
  · exact zptN_lt hi (Nat.le_refl _)
  · exact hi
/-- along the ring -/
def zfol (p : Nat → Nat) (k : Nat) : Nat → Nat → Nat
  | 0, t => t
  | r + 1, t => if t = k then t else zfol p k r (p t)
theorem zfol_lt {p : Nat → Nat} {k n : Nat} (hp : ∀ j, j < n → p j < n) : ∀ {r t : Nat}, t < n → zfol p k r t < n
  | 0, _, h => h
  | r + 1, t, h => by
    unfold zfol
    split
    · exact h
    · exact zfol_lt hp (hp t h)
def zrin (p : Nat → Nat) (left k : Nat) : Bool := decide (left / 2 ^ k % 2 = 1 ∧ zfol p k 6 (p k) = k)
def zgb (c : Nat → Bool) : Nat → Nat
  | 0 => 0
  | k + 1 => if c k = true then zgb c k ||| 2 ^ k else zgb c k
theorem zgb_lt {c : Nat → Bool} : ∀ {k : Nat}, k ≤ 6 → zgb c k < 64
  | 0, _ => by simp [zgb]
  | k + 1, hk => by
    unfold zgb
    split
    · exact Nat.or_lt_two_pow (n := 6) (zgb_lt (by omega)) (Nat.pow_lt_pow_right (by decide) (by omega))
    · exact zgb_lt (by omega)
def zhas (c : Nat → Bool) (v : Nat → Nat) : Nat → (Nat → Nat) → Nat → Nat
  | 0, f => f
  | k + 1, f => if c k = true then va_up (zhas c v k f) k (v k) else zhas c v k f
def zclr (a c : Nat) : Nat := a - (a &&& c)
set_option maxRecDepth 100000 in
theorem zn_clr0 : (List.range 64).all (fun a => (List.range 64).all (fun c => decide (nI a &&& (nI c ^^^ (-1)) = nI (zclr a c)))) = true := by decide +kernel
theorem zn_clr {a c : Nat} (ha : a < 64) (hc : c < 64) : nI a &&& (nI c ^^^ (-1)) = nI (zclr a c) := of_decide_eq_true (List.all_eq_true.mp (List.all_eq_true.mp zn_clr0 a (List.mem_range.mpr ha)) c (List.mem_range.mpr hc))
/-- the rounds: lc, wo, kk as above; W who wears what; n persons; r rounds at most -/
def zrdL (lc : Nat) (wo kk : Nat → Nat) (n left : Nat) : Nat := zclr left (zgb (zrin (zpt lc wo kk n left) left) n)
def zrdH (lc : Nat) (wo kk W : Nat → Nat) (n : Nat) : Nat → Nat → (Nat → Nat) → Nat → Nat
  | 0, _, f => f
  | r + 1, left, f => if left = 0 then f else zrdH lc wo kk W n r (zrdL lc wo kk n left) (zhas (zrin (zpt lc wo kk n left) left) (fun k => W (zpt lc wo kk n left k)) n f)
def zrdT (lc : Nat) (wo kk : Nat → Nat) (n : Nat) : Nat → Nat → Prop
  | 0, left => left = 0
  | r + 1, left => left = 0 ∨ zrdT lc wo kk n r (zrdL lc wo kk n left)
section
variable {xs : Nat → Int32} {L : Nat} {C h : ZH} {len at_ kep don see : Nat} {fit : Int32} {tx : Nat → Int32} {td ki kd pe sk wo sl sa wy be po mh : Nat → Nat} {go : Nat → Int32} 
theorem l_fl1 (hC : C.length = 104) (hP : pe 0 ≤ 6) {s i : Nat} (hs : s < 12) (hi : i < pe 0) (hw : ∀ i, i < pe 0 → sl (61 * s + i) < 6) (hk : ∀ i, i < pe 0 → zkk sl s i < 5) (ht : td 1 < 64) (hwo : ∀ q, q < 30 → wo q < 10) : ∀ r j, j + r = pe 0 → zev xs L 141 16 [.ref 104, .int (nI s), .int (nI i), .int (nI j)] [] (C ++ zM len at_ kep don see fit tx td ki kd pe sk wo sl sa wy be po mh go) = match zfst (zlb (td 1) wo (zkk sl s) i) r j with
    | some q => some (some (.int (nI (10 * i + q))), C ++ zM len at_ kep don see fit tx td ki kd pe sk wo sl sa wy be po mh go)
    | none => zev xs L 141 49 [.ref 104, .int (nI s), .int (nI i), .int (nI (pe 0))] [] (C ++ zM len at_ kep don see fit tx td ki kd pe sk wo sl sa wy be po mh go) := by
  intro r
  induction r with
  | zero => intro j hj; obtain rfl : j = pe 0 := by omega
            rw [q141_16]; simp (disch := first | omega | exact mt_0 hC) only [q141_0, q141_1, q141_3, q141_4, q141_7, q141_8, q141_9, q141_12, q141_13, q141_14, q141_15, q141_17, q141_18, q141_21, q141_22, q141_23, q141_26, q141_27, q141_28, q141_29, q141_30, q141_33, q141_36, q141_38, q141_39, q141_40, q141_41, q141_42, q141_43, q141_46, q141_52, q141_55, q141_57, mg_0, mg_1, mg_2, mg_3, mg_4, mg_5, mg_6, mg_7, mg_8, mg_9, mg_10, mg_11, mg_12, mg_13, mg_14, mg_15, mg_16, mg_17, mg_18, mg_19, mp_0, mp_2, mp_10, mp_11, mp_12, mp_18, mt_0, ma_tx, ms_tx, ma_td, ms_td, ma_ki, ms_ki, ma_kd, ms_kd, ma_pe, ms_pe, ma_sk, ms_sk, ma_wo, ms_wo, ma_sl, ms_sl, ma_sa, ms_sa, ma_wy, ms_wy, ma_be, ms_be, ma_po, ms_po, ma_mh, ms_mh, ma_go, ms_go, hC, nI_add, pk_mul, pk_sub, zn_lt, zn_eq, zn_lt0, zn_eq0, zn_0lt, zb_0, zb_k, zn_k1, zn_k0, ite_not, Nat.add_zero, Nat.zero_add, Nat.reduceAdd, Nat.reduceSub, Nat.reduceMul, Option.bind_some, Option.bind_none, Option.toList_some, Option.toList_none, List.cons_append, List.nil_append, if_true, if_false, zif_t, zif_f, eq_self, zfst]
  | succ r ih =>
    intro j hj
    have h1 := hw i hi
    have h2 := hw j (by omega)
    have h3 := hk i hi
    have h4 := hk j (by omega)
    have el := e_isLiked (xs := xs) (L := L) (len := len) (at_ := at_) (kep := kep) (don := don) (see := see) (fit := fit) (tx := tx) (td := td) (ki := ki) (kd := kd) (pe := pe) (sk := sk) (wo := wo) (sl := sl) (sa := sa) (wy := wy) (be := be) (po := po) (mh := mh) (go := go) (C := C) hC hs (i := i) (j := j) (by omega) (by omega) h1 h2 h3 h4 ht hwo
    rw [q141_16]; simp (disch := first | omega | exact mt_0 hC) only [q141_0, q141_1, q141_3, q141_4, q141_7, q141_8, q141_9, q141_12, q141_13, q141_14, q141_15, q141_17, q141_18, q141_21, q141_22, q141_23, q141_26, q141_27, q141_28, q141_29, q141_30, q141_33, q141_36, q141_38, q141_39, q141_40, q141_41, q141_42, q141_43, q141_46, q141_52, q141_55, q141_57, el, mg_0, mg_1, mg_2, mg_3, mg_4, mg_5, mg_6, mg_7, mg_8, mg_9, mg_10, mg_11, mg_12, mg_13, mg_14, mg_15, mg_16, mg_17, mg_18, mg_19, mp_0, mp_2, mp_10, mp_11, mp_12, mp_18, mt_0, ma_tx, ms_tx, ma_td, ms_td, ma_ki, ms_ki, ma_kd, ms_kd, ma_pe, ms_pe, ma_sk, ms_sk, ma_wo, ms_wo, ma_sl, ms_sl, ma_sa, ms_sa, ma_wy, ms_wy, ma_be, ms_be, ma_po, ms_po, ma_mh, ms_mh, ma_go, ms_go, hC, nI_add, pk_mul, pk_sub, zn_lt, zn_eq, zn_lt0, zn_eq0, zn_0lt, zb_0, zb_k, zn_k1, zn_k0, ite_not, Nat.add_zero, Nat.zero_add, Nat.reduceAdd, Nat.reduceSub, Nat.reduceMul, Option.bind_some, Option.bind_none, Option.toList_some, Option.toList_none, List.cons_append, List.nil_append, if_true, if_false, zif_t, zif_f, eq_self, zfst]
    by_cases hh : zlk (td 1) wo (zkk sl s) i j
    · rw [if_pos hh, if_pos (show zlb (td 1) wo (zkk sl s) i j = true from decide_eq_true hh)]
    · rw [if_neg hh, if_neg (show ¬ zlb (td 1) wo (zkk sl s) i j = true by unfold zlb; rw [decide_eq_true_eq]; exact hh)]
      exact ih (j + 1) (by omega)
theorem l_fl2 (hC : C.length = 104) (hP : pe 0 ≤ 6) {s : Nat} (hs : s < 12) (hw : ∀ i, i < pe 0 → sl (61 * s + i) < 6) (hk : ∀ i, i < pe 0 → zkk sl s i < 5) (ht : td 1 < 64) (hwo : ∀ q, q < 30 → wo q < 10) : ∀ (r i : Nat) (v3 : Value), i + r = pe 0 → zev xs L 141 2 [.ref 104, .int (nI s), .int (nI i), v3] [] (C ++ zM len at_ kep don see fit tx td ki kd pe sk wo sl sa wy be po mh go) = some (some (.int (zoi (zfsP (zlb (td 1) wo (zkk sl s)) (pe 0) r i))), C ++ zM len at_ kep don see fit tx td ki kd pe sk wo sl sa wy be po mh go) := by
  intro r
  induction r with
  | zero => intro i v3 hi; obtain rfl : i = pe 0 := by omega
            rw [q141_2]; simp (disch := first | omega | exact mt_0 hC) only [q141_0, q141_1, q141_3, q141_4, q141_7, q141_8, q141_9, q141_12, q141_13, q141_14, q141_15, q141_17, q141_18, q141_21, q141_22, q141_23, q141_26, q141_27, q141_28, q141_29, q141_30, q141_33, q141_36, q141_38, q141_39, q141_40, q141_41, q141_42, q141_43, q141_46, q141_49, q141_52, q141_55, q141_57, mg_0, mg_1, mg_2, mg_3, mg_4, mg_5, mg_6, mg_7, mg_8, mg_9, mg_10, mg_11, mg_12, mg_13, mg_14, mg_15, mg_16, mg_17, mg_18, mg_19, mp_0, mp_2, mp_10, mp_11, mp_12, mp_18, mt_0, ma_tx, ms_tx, ma_td, ms_td, ma_ki, ms_ki, ma_kd, ms_kd, ma_pe, ms_pe, ma_sk, ms_sk, ma_wo, ms_wo, ma_sl, ms_sl, ma_sa, ms_sa, ma_wy, ms_wy, ma_be, ms_be, ma_po, ms_po, ma_mh, ms_mh, ma_go, ms_go, hC, nI_add, pk_mul, pk_sub, zn_lt, zn_eq, zn_lt0, zn_eq0, zn_0lt, zb_0, zb_k, zn_k1, zn_k0, ite_not, Nat.add_zero, Nat.zero_add, Nat.reduceAdd, Nat.reduceSub, Nat.reduceMul, Option.bind_some, Option.bind_none, Option.toList_some, Option.toList_none, List.cons_append, List.nil_append, if_true, if_false, zif_t, zif_f, eq_self, zfsP, zoi]
  | succ r ih =>
    intro i v3 hi
    have e := l_fl1 (xs := xs) (L := L) (len := len) (at_ := at_) (kep := kep) (don := don) (see := see) (fit := fit) (tx := tx) (td := td) (ki := ki) (kd := kd) (pe := pe) (sk := sk) (wo := wo) (sl := sl) (sa := sa) (wy := wy) (be := be) (po := po) (mh := mh) (go := go) (C := C) hC hP hs (i := i) (by omega) hw hk ht hwo (pe 0 - (i + 1)) (i + 1) (by omega)
    rw [q141_2]; simp (disch := first | omega | exact mt_0 hC) only [q141_0, q141_1, q141_3, q141_4, q141_7, q141_8, q141_9, q141_12, q141_13, q141_14, q141_15, q141_17, q141_18, q141_21, q141_22, q141_23, q141_26, q141_27, q141_28, q141_29, q141_30, q141_33, q141_36, q141_38, q141_39, q141_40, q141_41, q141_42, q141_43, q141_46, q141_49, q141_52, q141_55, q141_57, e, mg_0, mg_1, mg_2, mg_3, mg_4, mg_5, mg_6, mg_7, mg_8, mg_9, mg_10, mg_11, mg_12, mg_13, mg_14, mg_15, mg_16, mg_17, mg_18, mg_19, mp_0, mp_2, mp_10, mp_11, mp_12, mp_18, mt_0, ma_tx, ms_tx, ma_td, ms_td, ma_ki, ms_ki, ma_kd, ms_kd, ma_pe, ms_pe, ma_sk, ms_sk, ma_wo, ms_wo, ma_sl, ms_sl, ma_sa, ms_sa, ma_wy, ms_wy, ma_be, ms_be, ma_po, ms_po, ma_mh, ms_mh, ma_go, ms_go, hC, nI_add, pk_mul, pk_sub, zn_lt, zn_eq, zn_lt0, zn_eq0, zn_0lt, zb_0, zb_k, zn_k1, zn_k0, ite_not, Nat.add_zero, Nat.zero_add, Nat.reduceAdd, Nat.reduceSub, Nat.reduceMul, Option.bind_some, Option.bind_none, Option.toList_some, Option.toList_none, List.cons_append, List.nil_append, if_true, if_false, zif_t, zif_f, eq_self, zfsP]
    cases hz : zfst (zlb (td 1) wo (zkk sl s) i) (pe 0 - (i + 1)) (i + 1) with
    | some q => rfl
    | none =>
      simp (disch := first | omega | exact mt_0 hC) only [q141_0, q141_1, q141_3, q141_4, q141_7, q141_8, q141_9, q141_12, q141_13, q141_14, q141_15, q141_17, q141_18, q141_21, q141_22, q141_23, q141_26, q141_27, q141_28, q141_29, q141_30, q141_33, q141_36, q141_38, q141_39, q141_40, q141_41, q141_42, q141_43, q141_46, q141_49, q141_52, q141_55, q141_57, mg_0, mg_1, mg_2, mg_3, mg_4, mg_5, mg_6, mg_7, mg_8, mg_9, mg_10, mg_11, mg_12, mg_13, mg_14, mg_15, mg_16, mg_17, mg_18, mg_19, mp_0, mp_2, mp_10, mp_11, mp_12, mp_18, mt_0, ma_tx, ms_tx, ma_td, ms_td, ma_ki, ms_ki, ma_kd, ms_kd, ma_pe, ms_pe, ma_sk, ms_sk, ma_wo, ms_wo, ma_sl, ms_sl, ma_sa, ms_sa, ma_wy, ms_wy, ma_be, ms_be, ma_po, ms_po, ma_mh, ms_mh, ma_go, ms_go, hC, nI_add, pk_mul, pk_sub, zn_lt, zn_eq, zn_lt0, zn_eq0, zn_0lt, zb_0, zb_k, zn_k1, zn_k0, ite_not, Nat.add_zero, Nat.zero_add, Nat.reduceAdd, Nat.reduceSub, Nat.reduceMul, Option.bind_some, Option.bind_none, Option.toList_some, Option.toList_none, List.cons_append, List.nil_append, if_true, if_false, zif_t, zif_f, eq_self]
      exact ih (i + 1) _ (by omega)
theorem e_firstLiked (hC : C.length = 104) (hP : pe 0 ≤ 6) {s : Nat} (hs : s < 12) (hw : ∀ i, i < pe 0 → sl (61 * s + i) < 6) (hk : ∀ i, i < pe 0 → zkk sl s i < 5) (ht : td 1 < 64) (hwo : ∀ q, q < 30 → wo q < 10) : zev xs L 141 0 [.ref 104, .int (nI s), .null, .null] [] (C ++ zM len at_ kep don see fit tx td ki kd pe sk wo sl sa wy be po mh go) = some (some (.int (zoi (zfsP (zlb (td 1) wo (zkk sl s)) (pe 0) (pe 0) 0))), C ++ zM len at_ kep don see fit tx td ki kd pe sk wo sl sa wy be po mh go) := by
  have e := l_fl2 (xs := xs) (L := L) (len := len) (at_ := at_) (kep := kep) (don := don) (see := see) (fit := fit) (tx := tx) (td := td) (ki := ki) (kd := kd) (pe := pe) (sk := sk) (wo := wo) (sl := sl) (sa := sa) (wy := wy) (be := be) (po := po) (mh := mh) (go := go) (C := C) hC hP hs hw hk ht hwo (pe 0) 0 .null (by omega)
  simp (disch := first | omega | exact mt_0 hC) only [q141_0, q141_1, q141_3, q141_4, q141_7, q141_8, q141_9, q141_12, q141_13, q141_14, q141_15, q141_17, q141_18, q141_21, q141_22, q141_23, q141_26, q141_27, q141_28, q141_29, q141_30, q141_33, q141_36, q141_38, q141_39, q141_40, q141_41, q141_42, q141_43, q141_46, q141_49, q141_52, q141_55, q141_57, nI_add, pk_mul, pk_sub, zn_lt, zn_eq, zn_lt0, zn_eq0, zn_0lt, zb_0, zb_k, zn_k1, zn_k0, ite_not, Nat.add_zero, Nat.zero_add, Nat.reduceAdd, Nat.reduceSub, Nat.reduceMul, Option.bind_some, Option.bind_none, Option.toList_some, Option.toList_none, List.cons_append, List.nil_append, if_true, if_false, zif_t, zif_f, eq_self, e]
theorem l_lk1 (hC : C.length = 104) (hP : pe 0 ≤ 6) {i : Nat} (hi : i < pe 0) (hw : ∀ i, i < pe 0 → sl (61 * 0 + i) < 6) (hk : ∀ i, i < pe 0 → zkk sl 0 i < 5) (ht : td 1 < 64) (hwo : ∀ q, q < 30 → wo q < 10) {v1 : Value} : ∀ r j c, j + r = pe 0 → zev xs L 142 42 [.ref 104, v1, .int (nI c), .int (nI i), .int (nI j)] [] (C ++ zM len at_ kep don see fit tx td ki kd pe sk wo sl sa wy be po mh go) = zev xs L 142 78 [.ref 104, v1, .int (nI (c + zcnt (zlb (td 1) wo (zkk sl 0) i) r j)), .int (nI i), .int (nI (pe 0))] [] (C ++ zM len at_ kep don see fit tx td ki kd pe sk wo sl sa wy be po mh go) := by
  intro r
  induction r with
  | zero => intro j c hj; obtain rfl : j = pe 0 := by omega
            rw [q142_42]; simp (disch := first | omega | exact mt_0 hC) only [q142_0, q142_1, q142_2, q142_3, q142_4, q142_7, q142_10, q142_11, q142_12, q142_13, q142_14, q142_17, q142_18, q142_19, q142_22, q142_23, q142_24, q142_25, q142_26, q142_28, q142_29, q142_32, q142_33, q142_34, q142_37, q142_38, q142_39, q142_40, q142_44, q142_45, q142_48, q142_49, q142_50, q142_53, q142_54, q142_55, q142_56, q142_57, q142_59, q142_62, q142_65, q142_66, q142_69, q142_70, q142_71, q142_72, q142_75, q142_81, q142_84, q142_85, mg_0, mg_1, mg_2, mg_3, mg_4, mg_5, mg_6, mg_7, mg_8, mg_9, mg_10, mg_11, mg_12, mg_13, mg_14, mg_15, mg_16, mg_17, mg_18, mg_19, mp_0, mp_2, mp_10, mp_11, mp_12, mp_18, mt_0, ma_tx, ms_tx, ma_td, ms_td, ma_ki, ms_ki, ma_kd, ms_kd, ma_pe, ms_pe, ma_sk, ms_sk, ma_wo, ms_wo, ma_sl, ms_sl, ma_sa, ms_sa, ma_wy, ms_wy, ma_be, ms_be, ma_po, ms_po, ma_mh, ms_mh, ma_go, ms_go, hC, nI_add, pk_mul, pk_sub, zn_lt, zn_eq, zn_lt0, zn_eq0, zn_0lt, zb_0, zb_k, zn_k1, zn_k0, ite_not, Nat.add_zero, Nat.zero_add, Nat.reduceAdd, Nat.reduceSub, Nat.reduceMul, Option.bind_some, Option.bind_none, Option.toList_some, Option.toList_none, List.cons_append, List.nil_append, if_true, if_false, zif_t, zif_f, eq_self, zcnt]
  | succ r ih =>
    intro j c hj
    have el := e_isLiked (xs := xs) (L := L) (len := len) (at_ := at_) (kep := kep) (don := don) (see := see) (fit := fit) (tx := tx) (td := td) (ki := ki) (kd := kd) (pe := pe) (sk := sk) (wo := wo) (sl := sl) (sa := sa) (wy := wy) (be := be) (po := po) (mh := mh) (go := go) (C := C) hC (s := 0) (by omega) (i := i) (j := j) (by omega) (by omega) (hw i hi) (hw j (by omega)) (hk i hi) (hk j (by omega)) ht hwo
    rw [q142_42]; simp (disch := first | omega | exact mt_0 hC) only [q142_0, q142_1, q142_2, q142_3, q142_4, q142_7, q142_10, q142_11, q142_12, q142_13, q142_14, q142_17, q142_18, q142_19, q142_22, q142_23, q142_24, q142_25, q142_26, q142_28, q142_29, q142_32, q142_33, q142_34, q142_37, q142_38, q142_39, q142_40, q142_44, q142_45, q142_48, q142_49, q142_50, q142_53, q142_54, q142_55, q142_56, q142_57, q142_59, q142_62, q142_65, q142_66, q142_69, q142_70, q142_71, q142_72, q142_75, q142_81, q142_84, q142_85, el, mg_0, mg_1, mg_2, mg_3, mg_4, mg_5, mg_6, mg_7, mg_8, mg_9, mg_10, mg_11, mg_12, mg_13, mg_14, mg_15, mg_16, mg_17, mg_18, mg_19, mp_0, mp_2, mp_10, mp_11, mp_12, mp_18, mt_0, ma_tx, ms_tx, ma_td, ms_td, ma_ki, ms_ki, ma_kd, ms_kd, ma_pe, ms_pe, ma_sk, ms_sk, ma_wo, ms_wo, ma_sl, ms_sl, ma_sa, ms_sa, ma_wy, ms_wy, ma_be, ms_be, ma_po, ms_po, ma_mh, ms_mh, ma_go, ms_go, hC, nI_add, pk_mul, pk_sub, zn_lt, zn_eq, zn_lt0, zn_eq0, zn_0lt, zb_0, zb_k, zn_k1, zn_k0, ite_not, Nat.add_zero, Nat.zero_add, Nat.reduceAdd, Nat.reduceSub, Nat.reduceMul, Option.bind_some, Option.bind_none, Option.toList_some, Option.toList_none, List.cons_append, List.nil_append, if_true, if_false, zif_t, zif_f, eq_self, zcnt]
    by_cases hh : zlk (td 1) wo (zkk sl 0) i j
    · rw [if_pos hh, if_pos (show zlb (td 1) wo (zkk sl 0) i j = true from decide_eq_true hh), ← Nat.add_assoc]
      exact ih (j + 1) (c + 1) (by omega)
    · rw [if_neg hh, if_neg (show ¬ zlb (td 1) wo (zkk sl 0) i j = true by unfold zlb; rw [decide_eq_true_eq]; exact hh), ← Nat.add_assoc]
      exact ih (j + 1) (c + 0) (by omega)
theorem l_lk2 (hC : C.length = 104) (hP : pe 0 ≤ 6) (hw : ∀ i, i < pe 0 → sl (61 * 0 + i) < 6) (hk : ∀ i, i < pe 0 → zkk sl 0 i < 5) (ht : td 1 < 64) (hwo : ∀ q, q < 30 → wo q < 10) {v1 : Value} : ∀ (r i c : Nat) (v4 : Value), i + r = pe 0 → zev xs L 142 27 [.ref 104, v1, .int (nI c), .int (nI i), v4] [] (C ++ zM len at_ kep don see fit tx td ki kd pe sk wo sl sa wy be po mh go) = some (some (.int (nI (c + zcnP (zlb (td 1) wo (zkk sl 0)) (pe 0) r i))), C ++ zM len at_ kep don see fit tx td ki kd pe sk wo sl sa wy be po mh go) := by
  intro r
  induction r with
  | zero => intro i c v4 hi; obtain rfl : i = pe 0 := by omega
            rw [q142_27]; simp (disch := first | omega | exact mt_0 hC) only [q142_0, q142_1, q142_2, q142_3, q142_4, q142_7, q142_10, q142_11, q142_12, q142_13, q142_14, q142_17, q142_18, q142_19, q142_22, q142_23, q142_24, q142_25, q142_26, q142_28, q142_29, q142_32, q142_33, q142_34, q142_37, q142_38, q142_39, q142_40, q142_44, q142_45, q142_48, q142_49, q142_50, q142_53, q142_54, q142_55, q142_56, q142_57, q142_59, q142_62, q142_65, q142_66, q142_69, q142_70, q142_71, q142_72, q142_75, q142_78, q142_81, q142_84, q142_85, mg_0, mg_1, mg_2, mg_3, mg_4, mg_5, mg_6, mg_7, mg_8, mg_9, mg_10, mg_11, mg_12, mg_13, mg_14, mg_15, mg_16, mg_17, mg_18, mg_19, mp_0, mp_2, mp_10, mp_11, mp_12, mp_18, mt_0, ma_tx, ms_tx, ma_td, ms_td, ma_ki, ms_ki, ma_kd, ms_kd, ma_pe, ms_pe, ma_sk, ms_sk, ma_wo, ms_wo, ma_sl, ms_sl, ma_sa, ms_sa, ma_wy, ms_wy, ma_be, ms_be, ma_po, ms_po, ma_mh, ms_mh, ma_go, ms_go, hC, nI_add, pk_mul, pk_sub, zn_lt, zn_eq, zn_lt0, zn_eq0, zn_0lt, zb_0, zb_k, zn_k1, zn_k0, ite_not, Nat.add_zero, Nat.zero_add, Nat.reduceAdd, Nat.reduceSub, Nat.reduceMul, Option.bind_some, Option.bind_none, Option.toList_some, Option.toList_none, List.cons_append, List.nil_append, if_true, if_false, zif_t, zif_f, eq_self, zcnP]
  | succ r ih =>
    intro i c v4 hi
    have e := l_lk1 (xs := xs) (L := L) (len := len) (at_ := at_) (kep := kep) (don := don) (see := see) (fit := fit) (tx := tx) (td := td) (ki := ki) (kd := kd) (pe := pe) (sk := sk) (wo := wo) (sl := sl) (sa := sa) (wy := wy) (be := be) (po := po) (mh := mh) (go := go) (C := C) hC hP (i := i) (by omega) hw hk ht hwo (v1 := v1) (pe 0 - (i + 1)) (i + 1) c (by omega)
    rw [q142_27]; simp (disch := first | omega | exact mt_0 hC) only [q142_0, q142_1, q142_2, q142_3, q142_4, q142_7, q142_10, q142_11, q142_12, q142_13, q142_14, q142_17, q142_18, q142_19, q142_22, q142_23, q142_24, q142_25, q142_26, q142_28, q142_29, q142_32, q142_33, q142_34, q142_37, q142_38, q142_39, q142_40, q142_44, q142_45, q142_48, q142_49, q142_50, q142_53, q142_54, q142_55, q142_56, q142_57, q142_59, q142_62, q142_65, q142_66, q142_69, q142_70, q142_71, q142_72, q142_75, q142_81, q142_84, q142_85, e, mg_0, mg_1, mg_2, mg_3, mg_4, mg_5, mg_6, mg_7, mg_8, mg_9, mg_10, mg_11, mg_12, mg_13, mg_14, mg_15, mg_16, mg_17, mg_18, mg_19, mp_0, mp_2, mp_10, mp_11, mp_12, mp_18, mt_0, ma_tx, ms_tx, ma_td, ms_td, ma_ki, ms_ki, ma_kd, ms_kd, ma_pe, ms_pe, ma_sk, ms_sk, ma_wo, ms_wo, ma_sl, ms_sl, ma_sa, ms_sa, ma_wy, ms_wy, ma_be, ms_be, ma_po, ms_po, ma_mh, ms_mh, ma_go, ms_go, hC, nI_add, pk_mul, pk_sub, zn_lt, zn_eq, zn_lt0, zn_eq0, zn_0lt, zb_0, zb_k, zn_k1, zn_k0, ite_not, Nat.add_zero, Nat.zero_add, Nat.reduceAdd, Nat.reduceSub, Nat.reduceMul, Option.bind_some, Option.bind_none, Option.toList_some, Option.toList_none, List.cons_append, List.nil_append, if_true, if_false, zif_t, zif_f, eq_self, zcnP]
    simp (disch := first | omega | exact mt_0 hC) only [q142_0, q142_1, q142_2, q142_3, q142_4, q142_7, q142_10, q142_11, q142_12, q142_13, q142_14, q142_17, q142_18, q142_19, q142_22, q142_23, q142_24, q142_25, q142_26, q142_28, q142_29, q142_32, q142_33, q142_34, q142_37, q142_38, q142_39, q142_40, q142_44, q142_45, q142_48, q142_49, q142_50, q142_53, q142_54, q142_55, q142_56, q142_57, q142_59, q142_62, q142_65, q142_66, q142_69, q142_70, q142_71, q142_72, q142_75, q142_78, q142_81, q142_84, q142_85, mg_0, mg_1, mg_2, mg_3, mg_4, mg_5, mg_6, mg_7, mg_8, mg_9, mg_10, mg_11, mg_12, mg_13, mg_14, mg_15, mg_16, mg_17, mg_18, mg_19, mp_0, mp_2, mp_10, mp_11, mp_12, mp_18, mt_0, ma_tx, ms_tx, ma_td, ms_td, ma_ki, ms_ki, ma_kd, ms_kd, ma_pe, ms_pe, ma_sk, ms_sk, ma_wo, ms_wo, ma_sl, ms_sl, ma_sa, ms_sa, ma_wy, ms_wy, ma_be, ms_be, ma_po, ms_po, ma_mh, ms_mh, ma_go, ms_go, hC, nI_add, pk_mul, pk_sub, zn_lt, zn_eq, zn_lt0, zn_eq0, zn_0lt, zb_0, zb_k, zn_k1, zn_k0, ite_not, Nat.add_zero, Nat.zero_add, Nat.reduceAdd, Nat.reduceSub, Nat.reduceMul, Option.bind_some, Option.bind_none, Option.toList_some, Option.toList_none, List.cons_append, List.nil_append, if_true, if_false, zif_t, zif_f, eq_self]
    rw [← Nat.add_assoc]
    exact ih (i + 1) _ _ (by omega)
theorem e_liked (hC : C.length = 104) (hP : pe 0 ≤ 6) (hw : ∀ i, i < pe 0 → sl (61 * 0 + i) < 6) (hk : ∀ i, i < pe 0 → zkk sl 0 i < 5) (ht : td 1 < 64) (hwo : ∀ q, q < 30 → wo q < 10) {c : Nat} (hc : c < 2) : zev xs L 142 0 [.ref 104, .int (nI c), .null, .null, .null] [] (C ++ zM len at_ kep don see fit tx td ki kd pe sk wo sl sa wy be po mh go) = some (some (.int (if c = 0 then nI (zcnP (zlb (td 1) wo (zkk sl 0)) (pe 0) (pe 0) 0) else zoi (zfsP (zlb (td 1) wo (zkk sl 0)) (pe 0) (pe 0) 0))), C ++ zM len at_ kep don see fit tx td ki kd pe sk wo sl sa wy be po mh go) := by
  have e1 : zb (lN 0 ≤ (nI c).toInt64 ∧ (nI c).toInt64 ≤ lN 1) = nI 1 := zb_t (by rw [zin_2 (by decide) (by decide), nI_toInt (by omega)]; omega)
  by_cases h0 : c = 0
  · subst h0
    have e := l_lk2 (xs := xs) (L := L) (len := len) (at_ := at_) (kep := kep) (don := don) (see := see) (fit := fit) (tx := tx) (td := td) (ki := ki) (kd := kd) (pe := pe) (sk := sk) (wo := wo) (sl := sl) (sa := sa) (wy := wy) (be := be) (po := po) (mh := mh) (go := go) (C := C) hC hP hw hk ht hwo (v1 := .int (nI 0)) (pe 0) 0 0 .null (by omega)
    simp (disch := first | omega | exact mt_0 hC) only [q142_0, q142_1, q142_2, q142_3, q142_4, q142_7, q142_10, q142_11, q142_12, q142_13, q142_14, q142_17, q142_18, q142_19, q142_22, q142_23, q142_24, q142_25, q142_26, q142_28, q142_29, q142_32, q142_33, q142_34, q142_37, q142_38, q142_39, q142_40, q142_44, q142_45, q142_48, q142_49, q142_50, q142_53, q142_54, q142_55, q142_56, q142_57, q142_59, q142_62, q142_65, q142_66, q142_69, q142_70, q142_71, q142_72, q142_75, q142_78, q142_81, q142_84, q142_85, e_in, e1, e, mg_0, mg_1, mg_2, mg_3, mg_4, mg_5, mg_6, mg_7, mg_8, mg_9, mg_10, mg_11, mg_12, mg_13, mg_14, mg_15, mg_16, mg_17, mg_18, mg_19, mp_0, mp_2, mp_10, mp_11, mp_12, mp_18, mt_0, ma_tx, ms_tx, ma_td, ms_td, ma_ki, ms_ki, ma_kd, ms_kd, ma_pe, ms_pe, ma_sk, ms_sk, ma_wo, ms_wo, ma_sl, ms_sl, ma_sa, ms_sa, ma_wy, ms_wy, ma_be, ms_be, ma_po, ms_po, ma_mh, ms_mh, ma_go, ms_go, hC, nI_add, pk_mul, pk_sub, zn_lt, zn_eq, zn_lt0, zn_eq0, zn_0lt, zb_0, zb_k, zn_k1, zn_k0, ite_not, Nat.add_zero, Nat.zero_add, Nat.reduceAdd, Nat.reduceSub, Nat.reduceMul, Option.bind_some, Option.bind_none, Option.toList_some, Option.toList_none, List.cons_append, List.nil_append, if_true, if_false, zif_t, zif_f, eq_self]
  · obtain rfl : c = 1 := by omega
    have e := e_firstLiked (xs := xs) (L := L) (len := len) (at_ := at_) (kep := kep) (don := don) (see := see) (fit := fit) (tx := tx) (td := td) (ki := ki) (kd := kd) (pe := pe) (sk := sk) (wo := wo) (sl := sl) (sa := sa) (wy := wy) (be := be) (po := po) (mh := mh) (go := go) (C := C) hC hP (s := 0) (by omega) hw hk ht hwo
    simp (disch := first | omega | exact mt_0 hC) only [q142_0, q142_1, q142_2, q142_3, q142_4, q142_7, q142_10, q142_11, q142_12, q142_13, q142_14, q142_17, q142_18, q142_19, q142_22, q142_23, q142_24, q142_25, q142_26, q142_28, q142_29, q142_32, q142_33, q142_34, q142_37, q142_38, q142_39, q142_40, q142_44, q142_45, q142_48, q142_49, q142_50, q142_53, q142_54, q142_55, q142_56, q142_57, q142_59, q142_62, q142_65, q142_66, q142_69, q142_70, q142_71, q142_72, q142_75, q142_78, q142_81, q142_84, q142_85, e_in, e1, e, mg_0, mg_1, mg_2, mg_3, mg_4, mg_5, mg_6, mg_7, mg_8, mg_9, mg_10, mg_11, mg_12, mg_13, mg_14, mg_15, mg_16, mg_17, mg_18, mg_19, mp_0, mp_2, mp_10, mp_11, mp_12, mp_18, mt_0, ma_tx, ms_tx, ma_td, ms_td, ma_ki, ms_ki, ma_kd, ms_kd, ma_pe, ms_pe, ma_sk, ms_sk, ma_wo, ms_wo, ma_sl, ms_sl, ma_sa, ms_sa, ma_wy, ms_wy, ma_be, ms_be, ma_po, ms_po, ma_mh, ms_mh, ma_go, ms_go, hC, nI_add, pk_mul, pk_sub, zn_lt, zn_eq, zn_lt0, zn_eq0, zn_0lt, zb_0, zb_k, zn_k1, zn_k0, ite_not, Nat.add_zero, Nat.zero_add, Nat.reduceAdd, Nat.reduceSub, Nat.reduceMul, Option.bind_some, Option.bind_none, Option.toList_some, Option.toList_none, List.cons_append, List.nil_append, if_true, if_false, zif_t, zif_f, eq_self]
theorem e_liked_bad {i : Int32} (hi : ¬ (0 ≤ i.toInt ∧ i.toInt ≤ 1)) : zev xs L 142 0 [.ref 104, .int i, .null, .null, .null] [] h = some (some (.int (-1)), h) := by
  have e1 : zb (lN 0 ≤ i.toInt64 ∧ i.toInt64 ≤ lN 1) = nI 0 := zb_f (by rw [zin_2 (by decide) (by decide)]; omega)
  simp (disch := omega) only [q142_0, q142_1, q142_2, q142_3, q142_4, q142_7, q142_10, q142_11, q142_12, q142_13, q142_14, q142_17, q142_18, q142_19, q142_22, q142_23, q142_24, q142_25, q142_26, q142_28, q142_29, q142_32, q142_33, q142_34, q142_37, q142_38, q142_39, q142_40, q142_44, q142_45, q142_48, q142_49, q142_50, q142_53, q142_54, q142_55, q142_56, q142_57, q142_59, q142_62, q142_65, q142_66, q142_69, q142_70, q142_71, q142_72, q142_75, q142_78, q142_81, q142_84, q142_85, e_in, e1, nI_add, pk_mul, pk_sub, zn_lt, zn_eq, zn_lt0, zn_eq0, zn_0lt, zb_0, zb_k, zn_k1, zn_k0, ite_not, Nat.add_zero, Nat.zero_add, Nat.reduceAdd, Nat.reduceSub, Nat.reduceMul, Option.bind_some, Option.bind_none, Option.toList_some, Option.toList_none, List.cons_append, List.nil_append, if_true, if_false, zif_t, zif_f, eq_self]
theorem l_pt (hC : C.length = 104) (hP : pe 0 ≤ 6) {i left : Nat} (hi : i < pe 0) (hl : left < 64) (hw : ∀ i, i < pe 0 → sl (61 * 0 + i) < 6) (hk : ∀ i, i < pe 0 → zkk sl 0 i < 5) (ht : td 1 < 64) (hwo : ∀ q, q < 30 → wo q < 10) : ∀ (r j : Nat) (v5 : Value), j + r = pe 0 → zev xs L 144 16 [.ref 104, .int (nI i), .int (nI left), .int (nI (zptN (zptc (td 1) wo (zkk sl 0) left i) i j)), .int (nI j), v5] [] (C ++ zM len at_ kep don see fit tx td ki kd pe sk wo sl sa wy be po mh go) = some (some (.int (nI (zptN (zptc (td 1) wo (zkk sl 0) left i) i (pe 0)))), C ++ zM len at_ kep don see fit tx td ki kd pe sk wo sl sa wy be po mh go) := by
  intro r
  induction r with
  | zero => intro j v5 hj; obtain rfl : j = pe 0 := by omega
            rw [q144_16]; simp (disch := first | omega | exact mt_0 hC) only [q144_0, q144_1, q144_2, q144_3, q144_6, q144_9, q144_10, q144_11, q144_12, q144_13, q144_14, q144_18, q144_19, q144_22, q144_23, q144_24, q144_27, q144_28, q144_30, q144_31, q144_32, q144_33, q144_34, q144_37, q144_38, q144_39, q144_41, q144_44, q144_47, q144_48, q144_51, q144_52, q144_54, q144_56, q144_59, q144_60, q144_63, q144_64, q144_65, q144_66, q144_67, q144_68, q144_70, q144_73, q144_74, q144_75, q144_76, q144_79, q144_80, q144_81, q144_82, q144_83, q144_84, q144_85, q144_88, q144_89, q144_90, q144_93, q144_95, q144_98, q144_99, q144_100, q144_103, q144_106, q144_107, mg_0, mg_1, mg_2, mg_3, mg_4, mg_5, mg_6, mg_7, mg_8, mg_9, mg_10, mg_11, mg_12, mg_13, mg_14, mg_15, mg_16, mg_17, mg_18, mg_19, mp_0, mp_2, mp_10, mp_11, mp_12, mp_18, mt_0, ma_tx, ms_tx, ma_td, ms_td, ma_ki, ms_ki, ma_kd, ms_kd, ma_pe, ms_pe, ma_sk, ms_sk, ma_wo, ms_wo, ma_sl, ms_sl, ma_sa, ms_sa, ma_wy, ms_wy, ma_be, ms_be, ma_po, ms_po, ma_mh, ms_mh, ma_go, ms_go, hC, nI_add, pk_mul, pk_sub, zn_lt, zn_eq, zn_lt0, zn_eq0, zn_0lt, zb_0, zb_k, zn_k1, zn_k0, ite_not, Nat.add_zero, Nat.zero_add, Nat.reduceAdd, Nat.reduceSub, Nat.reduceMul, Option.bind_some, Option.bind_none, Option.toList_some, Option.toList_none, List.cons_append, List.nil_append, if_true, if_false, zif_t, zif_f, eq_self]
  | succ r ih =>
    intro j v5 hj
    have hf : zptN (zptc (td 1) wo (zkk sl 0) left i) i j < pe 0 := zptN_lt hi (by omega)
    have h5 : left / 2 ^ j < 2 ^ 31 := Nat.lt_of_le_of_lt (Nat.div_le_self _ _) (by omega)
    have h6 : left / 2 ^ j &&& 1 = left / 2 ^ j % 2 := Nat.and_one_is_mod _
    have h7 : left / 2 ^ j % 2 < 2 := Nat.mod_lt _ (by decide)
    have hkj := hk j (by omega)
    have hkf := hk _ hf
    have w1 := hwo (5 * i + zkk sl 0 j) (by omega)
    have w2 := hwo (5 * i + zkk sl 0 (zptN (zptc (td 1) wo (zkk sl 0) left i) i j)) (by omega)
    have eg := e_mayGo (xs := xs) (L := L) (len := len) (at_ := at_) (kep := kep) (don := don) (see := see) (fit := fit) (tx := tx) (td := td) (ki := ki) (kd := kd) (pe := pe) (sk := sk) (wo := wo) (sl := sl) (sa := sa) (wy := wy) (be := be) (po := po) (mh := mh) (go := go) (C := C) hC (s := 0) (i := j) (by omega) (by omega) (hw j (by omega)) hkj ht
    have ek := e_kindOf (xs := xs) (L := L) (len := len) (at_ := at_) (kep := kep) (don := don) (see := see) (fit := fit) (tx := tx) (td := td) (ki := ki) (kd := kd) (pe := pe) (sk := sk) (wo := wo) (sl := sl) (sa := sa) (wy := wy) (be := be) (po := po) (mh := mh) (go := go) (C := C) hC (s := 0) (i := j) (by omega) (by omega) (hw j (by omega))
    have ek2 := e_kindOf (xs := xs) (L := L) (len := len) (at_ := at_) (kep := kep) (don := don) (see := see) (fit := fit) (tx := tx) (td := td) (ki := ki) (kd := kd) (pe := pe) (sk := sk) (wo := wo) (sl := sl) (sa := sa) (wy := wy) (be := be) (po := po) (mh := mh) (go := go) (C := C) hC (s := 0) (i := zptN (zptc (td 1) wo (zkk sl 0) left i) i j) (by omega) (by omega) (hw _ hf)
    have d1 : sl (61 * 0 + 6 + sl (61 * 0 + j)) = zkk sl 0 j := rfl
    have d2 : sl (61 * 0 + 6 + sl (61 * 0 + zptN (zptc (td 1) wo (zkk sl 0) left i) i j)) = zkk sl 0 (zptN (zptc (td 1) wo (zkk sl 0) left i) i j) := rfl
    rw [d1] at ek
    rw [d2] at ek2
    have e := fun v => ih (j + 1) v (by omega)
    rw [q144_16]; simp (disch := first | omega | exact mt_0 hC) only [q144_0, q144_1, q144_2, q144_3, q144_6, q144_9, q144_10, q144_11, q144_12, q144_13, q144_14, q144_18, q144_19, q144_22, q144_23, q144_24, q144_27, q144_28, q144_30, q144_31, q144_32, q144_33, q144_34, q144_37, q144_38, q144_39, q144_41, q144_44, q144_47, q144_48, q144_51, q144_52, q144_54, q144_56, q144_59, q144_60, q144_63, q144_64, q144_65, q144_66, q144_67, q144_68, q144_70, q144_73, q144_74, q144_75, q144_76, q144_79, q144_80, q144_81, q144_82, q144_83, q144_84, q144_85, q144_88, q144_89, q144_90, q144_93, q144_95, q144_98, q144_99, q144_100, q144_103, q144_106, q144_107, eg, ek, ek2, mg_0, mg_1, mg_2, mg_3, mg_4, mg_5, mg_6, mg_7, mg_8, mg_9, mg_10, mg_11, mg_12, mg_13, mg_14, mg_15, mg_16, mg_17, mg_18, mg_19, mp_0, mp_2, mp_10, mp_11, mp_12, mp_18, mt_0, ma_tx, ms_tx, ma_td, ms_td, ma_ki, ms_ki, ma_kd, ms_kd, ma_pe, ms_pe, ma_sk, ms_sk, ma_wo, ms_wo, ma_sl, ms_sl, ma_sa, ms_sa, ma_wy, ms_wy, ma_be, ms_be, ma_po, ms_po, ma_mh, ms_mh, ma_go, ms_go, hC, zn_shr, zn_and, h6, nI_add, pk_mul, pk_sub, zn_lt, zn_eq, zn_lt0, zn_eq0, zn_0lt, zb_0, zb_k, zn_k1, zn_k0, ite_not, Nat.add_zero, Nat.zero_add, Nat.reduceAdd, Nat.reduceSub, Nat.reduceMul, Option.bind_some, Option.bind_none, Option.toList_some, Option.toList_none, List.cons_append, List.nil_append, if_true, if_false, zif_t, zif_f, eq_self]
    by_cases g1 : left / 2 ^ j % 2 = 1
    · by_cases g2 : td 1 / 2 ^ zkk sl 0 j % 2 = 0
      · by_cases g3 : wo (5 * i + zkk sl 0 (zptN (zptc (td 1) wo (zkk sl 0) left i) i j)) < wo (5 * i + zkk sl 0 j)
        · have e2 : zptN (zptc (td 1) wo (zkk sl 0) left i) i (j + 1) = j := by rw [zptN]; exact if_pos (decide_eq_true ⟨g1, g2, g3⟩)
          rw [e2] at e
          simp (disch := first | omega | exact mt_0 hC) only [q144_0, q144_1, q144_2, q144_3, q144_6, q144_9, q144_10, q144_11, q144_12, q144_13, q144_14, q144_18, q144_19, q144_22, q144_23, q144_24, q144_27, q144_28, q144_30, q144_31, q144_32, q144_33, q144_34, q144_37, q144_38, q144_39, q144_41, q144_44, q144_47, q144_48, q144_51, q144_52, q144_54, q144_56, q144_59, q144_60, q144_63, q144_64, q144_65, q144_66, q144_67, q144_68, q144_70, q144_73, q144_74, q144_75, q144_76, q144_79, q144_80, q144_81, q144_82, q144_83, q144_84, q144_85, q144_88, q144_89, q144_90, q144_93, q144_95, q144_98, q144_99, q144_100, q144_103, q144_106, q144_107, g1, g2, g3, ek, ek2, mg_0, mg_1, mg_2, mg_3, mg_4, mg_5, mg_6, mg_7, mg_8, mg_9, mg_10, mg_11, mg_12, mg_13, mg_14, mg_15, mg_16, mg_17, mg_18, mg_19, mp_0, mp_2, mp_10, mp_11, mp_12, mp_18, mt_0, ma_tx, ms_tx, ma_td, ms_td, ma_ki, ms_ki, ma_kd, ms_kd, ma_pe, ms_pe, ma_sk, ms_sk, ma_wo, ms_wo, ma_sl, ms_sl, ma_sa, ms_sa, ma_wy, ms_wy, ma_be, ms_be, ma_po, ms_po, ma_mh, ms_mh, ma_go, ms_go, hC, nI_add, pk_mul, pk_sub, zn_lt, zn_eq, zn_lt0, zn_eq0, zn_0lt, zb_0, zb_k, zn_k1, zn_k0, ite_not, Nat.add_zero, Nat.zero_add, Nat.reduceAdd, Nat.reduceSub, Nat.reduceMul, Option.bind_some, Option.bind_none, Option.toList_some, Option.toList_none, List.cons_append, List.nil_append, if_true, if_false, zif_t, zif_f, eq_self]
          exact e _
        · have e2 : zptN (zptc (td 1) wo (zkk sl 0) left i) i (j + 1) = zptN (zptc (td 1) wo (zkk sl 0) left i) i j := by rw [zptN]; exact if_neg (by unfold zptc; rw [decide_eq_true_eq]; exact fun q => g3 q.2.2)
          rw [e2] at e
          simp (disch := first | omega | exact mt_0 hC) only [q144_0, q144_1, q144_2, q144_3, q144_6, q144_9, q144_10, q144_11, q144_12, q144_13, q144_14, q144_18, q144_19, q144_22, q144_23, q144_24, q144_27, q144_28, q144_30, q144_31, q144_32, q144_33, q144_34, q144_37, q144_38, q144_39, q144_41, q144_44, q144_47, q144_48, q144_51, q144_52, q144_54, q144_56, q144_59, q144_60, q144_63, q144_64, q144_65, q144_66, q144_67, q144_68, q144_70, q144_73, q144_74, q144_75, q144_76, q144_79, q144_80, q144_81, q144_82, q144_83, q144_84, q144_85, q144_88, q144_89, q144_90, q144_93, q144_95, q144_98, q144_99, q144_100, q144_103, q144_106, q144_107, g1, g2, g3, ek, ek2, mg_0, mg_1, mg_2, mg_3, mg_4, mg_5, mg_6, mg_7, mg_8, mg_9, mg_10, mg_11, mg_12, mg_13, mg_14, mg_15, mg_16, mg_17, mg_18, mg_19, mp_0, mp_2, mp_10, mp_11, mp_12, mp_18, mt_0, ma_tx, ms_tx, ma_td, ms_td, ma_ki, ms_ki, ma_kd, ms_kd, ma_pe, ms_pe, ma_sk, ms_sk, ma_wo, ms_wo, ma_sl, ms_sl, ma_sa, ms_sa, ma_wy, ms_wy, ma_be, ms_be, ma_po, ms_po, ma_mh, ms_mh, ma_go, ms_go, hC, nI_add, pk_mul, pk_sub, zn_lt, zn_eq, zn_lt0, zn_eq0, zn_0lt, zb_0, zb_k, zn_k1, zn_k0, ite_not, Nat.add_zero, Nat.zero_add, Nat.reduceAdd, Nat.reduceSub, Nat.reduceMul, Option.bind_some, Option.bind_none, Option.toList_some, Option.toList_none, List.cons_append, List.nil_append, if_true, if_false, zif_t, zif_f, eq_self]
          exact e _
      · have e2 : zptN (zptc (td 1) wo (zkk sl 0) left i) i (j + 1) = zptN (zptc (td 1) wo (zkk sl 0) left i) i j := by rw [zptN]; exact if_neg (by unfold zptc; rw [decide_eq_true_eq]; exact fun q => g2 q.2.1)
        rw [e2] at e
        simp (disch := first | omega | exact mt_0 hC) only [q144_0, q144_1, q144_2, q144_3, q144_6, q144_9, q144_10, q144_11, q144_12, q144_13, q144_14, q144_18, q144_19, q144_22, q144_23, q144_24, q144_27, q144_28, q144_30, q144_31, q144_32, q144_33, q144_34, q144_37, q144_38, q144_39, q144_41, q144_44, q144_47, q144_48, q144_51, q144_52, q144_54, q144_56, q144_59, q144_60, q144_63, q144_64, q144_65, q144_66, q144_67, q144_68, q144_70, q144_73, q144_74, q144_75, q144_76, q144_79, q144_80, q144_81, q144_82, q144_83, q144_84, q144_85, q144_88, q144_89, q144_90, q144_93, q144_95, q144_98, q144_99, q144_100, q144_103, q144_106, q144_107, g1, g2, mg_0, mg_1, mg_2, mg_3, mg_4, mg_5, mg_6, mg_7, mg_8, mg_9, mg_10, mg_11, mg_12, mg_13, mg_14, mg_15, mg_16, mg_17, mg_18, mg_19, mp_0, mp_2, mp_10, mp_11, mp_12, mp_18, mt_0, ma_tx, ms_tx, ma_td, ms_td, ma_ki, ms_ki, ma_kd, ms_kd, ma_pe, ms_pe, ma_sk, ms_sk, ma_wo, ms_wo, ma_sl, ms_sl, ma_sa, ms_sa, ma_wy, ms_wy, ma_be, ms_be, ma_po, ms_po, ma_mh, ms_mh, ma_go, ms_go, hC, nI_add, pk_mul, pk_sub, zn_lt, zn_eq, zn_lt0, zn_eq0, zn_0lt, zb_0, zb_k, zn_k1, zn_k0, ite_not, Nat.add_zero, Nat.zero_add, Nat.reduceAdd, Nat.reduceSub, Nat.reduceMul, Option.bind_some, Option.bind_none, Option.toList_some, Option.toList_none, List.cons_append, List.nil_append, if_true, if_false, zif_t, zif_f, eq_self]
        exact e _
    · have e2 : zptN (zptc (td 1) wo (zkk sl 0) left i) i (j + 1) = zptN (zptc (td 1) wo (zkk sl 0) left i) i j := by rw [zptN]; exact if_neg (by unfold zptc; rw [decide_eq_true_eq]; exact fun q => g1 q.1)
      rw [e2] at e
      simp (disch := first | omega | exact mt_0 hC) only [q144_0, q144_1, q144_2, q144_3, q144_6, q144_9, q144_10, q144_11, q144_12, q144_13, q144_14, q144_18, q144_19, q144_22, q144_23, q144_24, q144_27, q144_28, q144_30, q144_31, q144_32, q144_33, q144_34, q144_37, q144_38, q144_39, q144_41, q144_44, q144_47, q144_48, q144_51, q144_52, q144_54, q144_56, q144_59, q144_60, q144_63, q144_64, q144_65, q144_66, q144_67, q144_68, q144_70, q144_73, q144_74, q144_75, q144_76, q144_79, q144_80, q144_81, q144_82, q144_83, q144_84, q144_85, q144_88, q144_89, q144_90, q144_93, q144_95, q144_98, q144_99, q144_100, q144_103, q144_106, q144_107, g1, mg_0, mg_1, mg_2, mg_3, mg_4, mg_5, mg_6, mg_7, mg_8, mg_9, mg_10, mg_11, mg_12, mg_13, mg_14, mg_15, mg_16, mg_17, mg_18, mg_19, mp_0, mp_2, mp_10, mp_11, mp_12, mp_18, mt_0, ma_tx, ms_tx, ma_td, ms_td, ma_ki, ms_ki, ma_kd, ms_kd, ma_pe, ms_pe, ma_sk, ms_sk, ma_wo, ms_wo, ma_sl, ms_sl, ma_sa, ms_sa, ma_wy, ms_wy, ma_be, ms_be, ma_po, ms_po, ma_mh, ms_mh, ma_go, ms_go, hC, nI_add, pk_mul, pk_sub, zn_lt, zn_eq, zn_lt0, zn_eq0, zn_0lt, zb_0, zb_k, zn_k1, zn_k0, ite_not, Nat.add_zero, Nat.zero_add, Nat.reduceAdd, Nat.reduceSub, Nat.reduceMul, Option.bind_some, Option.bind_none, Option.toList_some, Option.toList_none, List.cons_append, List.nil_append, if_true, if_false, zif_t, zif_f, eq_self]
      exact e _
theorem e_pointed (hC : C.length = 104) (hP : pe 0 ≤ 6) {i left : Nat} (hi : i < pe 0) (hl : left < 64) (hw : ∀ i, i < pe 0 → sl (61 * 0 + i) < 6) (hk : ∀ i, i < pe 0 → zkk sl 0 i < 5) (ht : td 1 < 64) (hwo : ∀ q, q < 30 → wo q < 10) : zev xs L 144 0 [.ref 104, .int (nI i), .int (nI left), .null, .null, .null] [] (C ++ zM len at_ kep don see fit tx td ki kd pe sk wo sl sa wy be po mh go) = some (some (.int (nI (zpt (td 1) wo (zkk sl 0) (pe 0) left i))), C ++ zM len at_ kep don see fit tx td ki kd pe sk wo sl sa wy be po mh go) := by
  have eg := e_mayGo (xs := xs) (L := L) (len := len) (at_ := at_) (kep := kep) (don := don) (see := see) (fit := fit) (tx := tx) (td := td) (ki := ki) (kd := kd) (pe := pe) (sk := sk) (wo := wo) (sl := sl) (sa := sa) (wy := wy) (be := be) (po := po) (mh := mh) (go := go) (C := C) hC (s := 0) (i := i) (by omega) (by omega) (hw i hi) (hk i hi) ht
  have e := l_pt (xs := xs) (L := L) (len := len) (at_ := at_) (kep := kep) (don := don) (see := see) (fit := fit) (tx := tx) (td := td) (ki := ki) (kd := kd) (pe := pe) (sk := sk) (wo := wo) (sl := sl) (sa := sa) (wy := wy) (be := be) (po := po) (mh := mh) (go := go) (C := C) hC hP hi hl hw hk ht hwo (pe 0) 0 .null (by omega)
  simp only [zptN] at e
  simp (disch := first | omega | exact mt_0 hC) only [q144_0, q144_1, q144_2, q144_3, q144_6, q144_9, q144_10, q144_11, q144_12, q144_13, q144_14, q144_18, q144_19, q144_22, q144_23, q144_24, q144_27, q144_28, q144_30, q144_31, q144_32, q144_33, q144_34, q144_37, q144_38, q144_39, q144_41, q144_44, q144_47, q144_48, q144_51, q144_52, q144_54, q144_56, q144_59, q144_60, q144_63, q144_64, q144_65, q144_66, q144_67, q144_68, q144_70, q144_73, q144_74, q144_75, q144_76, q144_79, q144_80, q144_81, q144_82, q144_83, q144_84, q144_85, q144_88, q144_89, q144_90, q144_93, q144_95, q144_98, q144_99, q144_100, q144_103, q144_106, q144_107, eg, mg_0, mg_1, mg_2, mg_3, mg_4, mg_5, mg_6, mg_7, mg_8, mg_9, mg_10, mg_11, mg_12, mg_13, mg_14, mg_15, mg_16, mg_17, mg_18, mg_19, mp_0, mp_2, mp_10, mp_11, mp_12, mp_18, mt_0, ma_tx, ms_tx, ma_td, ms_td, ma_ki, ms_ki, ma_kd, ms_kd, ma_pe, ms_pe, ma_sk, ms_sk, ma_wo, ms_wo, ma_sl, ms_sl, ma_sa, ms_sa, ma_wy, ms_wy, ma_be, ms_be, ma_po, ms_po, ma_mh, ms_mh, ma_go, ms_go, hC, nI_add, pk_mul, pk_sub, zn_lt, zn_eq, zn_lt0, zn_eq0, zn_0lt, zb_0, zb_k, zn_k1, zn_k0, ite_not, Nat.add_zero, Nat.zero_add, Nat.reduceAdd, Nat.reduceSub, Nat.reduceMul, Option.bind_some, Option.bind_none, Option.toList_some, Option.toList_none, List.cons_append, List.nil_append, if_true, if_false, zif_t, zif_f, eq_self, e]
  unfold zpt
  by_cases g : td 1 / 2 ^ zkk sl 0 i % 2 = 0
  · rw [if_pos g, if_pos g]
  · rw [if_neg g, if_neg g]
end
