/-! ===== ways: one behind the other ===== -/
def znb (n : Nat) (w : Nat → Nat) : Bool := (znx n w).isSome
def znd (n : Nat) (w : Nat → Nat) : Nat → Nat := (znx n w).getD w
theorem zpiv_congr {w w' : Nat → Nat} : ∀ {m : Nat}, (∀ j, j ≤ m → w j = w' j) → zpiv w m = zpiv w' m
  | 0, _ => rfl
  | m + 1, h => by unfold zpiv; rw [h m (by omega), h (m + 1) (by omega), zpiv_congr (fun j hj => h j (by omega))]
theorem zfj_congr {w w' : Nat → Nat} {p : Nat} : ∀ {m : Nat}, (∀ j, j ≤ m → w j = w' j) → zfj w p m = zfj w' p m
  | 0, _ => rfl
  | m + 1, h => by unfold zfj; rw [h (m + 1) (by omega), zfj_congr (fun j hj => h j (by omega))]
theorem zsw_congr {w w' : Nat → Nat} {n a b : Nat} (h : ∀ j, j < n → w j = w' j) (ha : a < n) (hb : b < n) : ∀ j, j < n → zsw w a b j = zsw w' a b j := by
  intro j hj
  unfold zsw va_up
  rw [h a ha, h b hb, h j hj]
theorem zrev_congr {n : Nat} : ∀ {r : Nat} {w w' : Nat → Nat} {a b : Nat}, (∀ j, j < n → w j = w' j) → b < n → ∀ j, j < n → zrev r w a b j = zrev r w' a b j
  | 0, _, _, _, _, h, _ => h
  | r + 1, w, w', a, b, h, hb => by
    unfold zrev
    split
    · exact zrev_congr (zsw_congr h (by omega) hb) (by omega)
    · exact h
theorem znx_some {n k : Nat} {w : Nat → Nat} (h : zpiv w (n - 1) = some k) : znx n w = some (zrev 6 (zsw w k (zfj w (w k) (n - 1))) (k + 1) (n - 1)) := by unfold znx; rw [h]; rfl
theorem znx_none {n : Nat} {w : Nat → Nat} (h : zpiv w (n - 1) = none) : znx n w = none := by unfold znx; rw [h]; rfl
theorem znx_congr {n : Nat} {w w' : Nat → Nat} (hn : 1 ≤ n) (h : ∀ j, j < n → w j = w' j) : znb n w = znb n w' ∧ ∀ j, j < n → znd n w j = znd n w' j := by
  have e1 : zpiv w (n - 1) = zpiv w' (n - 1) := zpiv_congr (fun j hj => h j (by omega))
  unfold znb znd
  cases hp : zpiv w' (n - 1) with
  | none => rw [znx_none (e1.trans hp), znx_none hp]; exact ⟨rfl, h⟩
  | some k =>
    have hk := zpiv_lt hp
    rw [znx_some (e1.trans hp), znx_some hp]
    refine ⟨by simp only [Option.isSome_some], ?_⟩
    simp only [Option.getD_some]
    have e2 : zfj w (w k) (n - 1) = zfj w' (w' k) (n - 1) := by rw [h k (by omega)]; exact zfj_congr (fun j hj => h j (by omega))
    rw [e2]
    have := zfj_le (w := w') (p := w' k) (j := n - 1)
    exact zrev_congr (zsw_congr h (by omega) (by omega)) (by omega)
theorem zsw_lt {w : Nat → Nat} {a b c : Nat} (h : ∀ j, j < 6 → w j < c) (ha : a < 6) (hb : b < 6) : ∀ j, j < 6 → zsw w a b j < c := by
  intro j hj
  unfold zsw va_up
  split
  · exact h a ha
  · split
    · exact h b hb
    · exact h j hj
theorem zrev_lt {c : Nat} : ∀ {r : Nat} {w : Nat → Nat} {a b : Nat}, (∀ j, j < 6 → w j < c) → b < 6 → ∀ j, j < 6 → zrev r w a b j < c
  | 0, _, _, _, h, _ => h
  | r + 1, w, a, b, h, hb => by
    unfold zrev
    split
    · exact zrev_lt (zsw_lt h (by omega) hb) (by omega)
    · exact h
theorem znd_lt {n c : Nat} {w : Nat → Nat} (hn : 1 ≤ n ∧ n ≤ 6) (h : ∀ j, j < 6 → w j < c) : ∀ j, j < 6 → znd n w j < c := by
  unfold znd
  cases hp : zpiv w (n - 1) with
  | none => rw [znx_none hp]; exact h
  | some k =>
    rw [znx_some hp]
    have hk := zpiv_lt hp
    have := zfj_le (w := w) (p := w k) (j := n - 1)
    exact zrev_lt (zsw_lt h (by omega) (by omega)) (by omega)
def zlw (l : List Nat) : Nat → Nat := fun j => l.getD j 0
def zndl (n : Nat) (l : List Nat) : List Nat := (List.range 6).map (znd n (zlw l))
def zok6 (n : Nat) : Nat → List Nat → Bool
  | 0, l => !znb n (zlw l)
  | r + 1, l => znb n (zlw l) && zok6 n r (zndl n l)
theorem zndl_at {n : Nat} {l : List Nat} {j : Nat} (hj : j < 6) : zlw (zndl n l) j = znd n (zlw l) j := by
  unfold zndl
  show ((List.range 6).map (znd n (zlw l))).getD j 0 = _
  rw [List.getD_eq_getElem?_getD, List.getElem?_map, List.getElem?_range hj]; rfl
set_option maxRecDepth 1000000 in
theorem zok6_all : ((List.range 7).all (fun n => n == 0 || zok6 n (zfac n - 1) [0, 1, 2, 3, 4, 5])) = true := by decide +kernel
theorem zok6_n {n : Nat} (hn : 1 ≤ n ∧ n ≤ 6) : zok6 n (zfac n - 1) [0, 1, 2, 3, 4, 5] = true := by
  have := List.all_eq_true.mp zok6_all n (List.mem_range.mpr (by omega))
  simp only [Bool.or_eq_true, beq_iff_eq] at this
  exact this.resolve_left (by omega)
/-- how the ways go on: from w on there are r more, and no further one -/
def zgo (n : Nat) : Nat → (Nat → Nat) → Prop
  | 0, w => znb n w = false
  | r + 1, w => znb n w = true ∧ zgo n r (znd n w)
theorem zgo_of {n : Nat} (hn : 1 ≤ n ∧ n ≤ 6) : ∀ {r : Nat} {w : Nat → Nat} {l : List Nat}, (∀ j, j < n → w j = zlw l j) → zok6 n r l = true → zgo n r w
  | 0, w, l, h, hk => by
    show znb n w = false
    rw [(znx_congr hn.1 h).1]
    simpa [zok6] using hk
  | r + 1, w, l, h, hk => by
    unfold zok6 at hk
    rw [Bool.and_eq_true] at hk
    refine ⟨by rw [(znx_congr hn.1 h).1]; exact hk.1, zgo_of hn (l := zndl n l) (fun j hj => ?_) hk.2⟩
    rw [zndl_at (by omega)]
    exact (znx_congr hn.1 h).2 j hj
theorem zgo_id {n : Nat} (hn : 1 ≤ n ∧ n ≤ 6) {w : Nat → Nat} (h : ∀ j, j < n → w j = j) : zgo n (zfac n - 1) w :=
  zgo_of hn (fun j hj => by rw [h j hj]; unfold zlw; match j, (show j < 6 by omega) with | 0, _ | 1, _ | 2, _ | 3, _ | 4, _ | 5, _ => rfl | k + 6, h => omega) (zok6_n hn)
theorem zfac_pos (n : Nat) : 1 ≤ zfac n := by
  induction n with
  | zero => exact Nat.le_refl 1
  | succ n ih => exact Nat.mul_pos ih (Nat.succ_pos n)
theorem zfac_le {n : Nat} (hn : n ≤ 6) : zfac n ≤ 720 := by
  match n, hn with
  | 0, _ | 1, _ | 2, _ | 3, _ | 4, _ | 5, _ | 6, _ => decide
  | k + 7, h => omega
/-- sums over the ways -/
def zcw (T : (Nat → Nat) → Nat) (n : Nat) : Nat → (Nat → Nat) → Nat
  | 0, w => T w
  | r + 1, w => T w + zcw T n r (znd n w)
theorem zcw_congr {T T' : (Nat → Nat) → Nat} {n : Nat} (hn : 1 ≤ n) (hT : ∀ w w', (∀ j, j < n → w j = w' j) → T w = T' w') : ∀ {r : Nat} {w w' : Nat → Nat}, (∀ j, j < n → w j = w' j) → zcw T n r w = zcw T' n r w'
  | 0, w, w', h => hT w w' h
  | r + 1, w, w', h => by unfold zcw; rw [hT w w' h, zcw_congr hn hT (znx_congr hn h).2]
theorem zcw_le {T : (Nat → Nat) → Nat} {n b : Nat} (hT : ∀ w, T w ≤ b) : ∀ {r : Nat} {w : Nat → Nat}, zcw T n r w ≤ (r + 1) * b
  | 0, w => by unfold zcw; rw [Nat.zero_add, Nat.one_mul]; exact hT w
  | r + 1, w => by
    have := zcw_le hT (n := n) (r := r) (w := znd n w)
    have h2 := hT w
    unfold zcw
    rw [Nat.succ_mul]; omega
def zor (f : Nat → Nat) : Nat → Nat
  | 0 => 0
  | n + 1 => zor f n ||| f n
theorem zor_lt {f : Nat → Nat} : ∀ {n : Nat}, (∀ i, i < n → f i < 64) → zor f n < 64
  | 0, _ => by simp [zor]
  | n + 1, h => Nat.or_lt_two_pow (n := 6) (zor_lt (fun i hi => h i (by omega))) (h n (by omega))
theorem zor_congr {f g : Nat → Nat} : ∀ {n : Nat}, (∀ i, i < n → f i = g i) → zor f n = zor g n
  | 0, _ => rfl
  | n + 1, h => by rw [zor, zor, zor_congr (fun i hi => h i (by omega)), h n (by omega)]
set_option maxRecDepth 100000 in
theorem zn_sub0 : (List.range 64).all (fun a => (List.range 64).all (fun c => decide ((nI a &&& (nI c ^^^ (-1)) = 0) ↔ (a &&& c = a)))) = true := by decide +kernel
theorem zn_sub {a c : Nat} (ha : a < 64) (hc : c < 64) : (nI a &&& (nI c ^^^ (-1)) = 0) ↔ (a &&& c = a) := of_decide_eq_true (List.all_eq_true.mp (List.all_eq_true.mp zn_sub0 a (List.mem_range.mpr ha)) c (List.mem_range.mpr hc))
theorem zn_m2 {n : Nat} (hn : 1 ≤ n) : nI n - nI 2 = nI (n - 1) - nI 1 := by
  obtain ⟨m, rfl⟩ : ∃ m, n = m + 1 := ⟨n - 1, by omega⟩
  rw [Nat.add_sub_cancel, nI_succ]
  have e : (nI 2 : Int32) = nI 1 + 1 := rfl
  rw [e, Int32.sub_eq_add_neg, Int32.sub_eq_add_neg, Int32.neg_add]
  have e2 : (nI 1 : Int32) = 1 := rfl
  rw [e2]
  rw [Int32.add_assoc]
  rfl
theorem zn_neg : (nI 0 - nI 1 < 0) ↔ True := by decide
section
variable {xs : Nat → Int32} {L : Nat} {C h : ZH} {len at_ kep don see : Nat} {fit : Int32} {tx : Nat → Int32} {td ki kd pe sk wo sl sa wy be po mh : Nat → Nat} {go : Nat → Int32} 
theorem l_nwA (hC : C.length = 104) (hw : ∀ j, j < 6 → wy j < 6) {v1 v3 v4 v5 v6 : Value} : ∀ m, m < 6 → zev xs L 135 11 [.ref 104, v1, .int (nI m - nI 1), v3, v4, v5, v6] [] (C ++ zM len at_ kep don see fit tx td ki kd pe sk wo sl sa wy be po mh go) = match zpiv wy m with
    | none => some (some (.int (nI 0)), C ++ zM len at_ kep don see fit tx td ki kd pe sk wo sl sa wy be po mh go)
    | some k => zev xs L 135 44 [.ref 104, v1, .int (nI k), v3, v4, v5, v6] [] (C ++ zM len at_ kep don see fit tx td ki kd pe sk wo sl sa wy be po mh go) := by
  intro m
  induction m with
  | zero => intro _
            rw [q135_11]; simp (disch := first | omega | exact mt_0 hC) only [q135_0, q135_1, q135_4, q135_5, q135_6, q135_7, q135_8, q135_9, q135_10, q135_12, q135_15, q135_16, q135_19, q135_20, q135_21, q135_22, q135_25, q135_26, q135_27, q135_28, q135_29, q135_32, q135_35, q135_38, q135_39, q135_42, q135_43, q135_45, q135_46, q135_47, q135_48, q135_49, q135_52, q135_53, q135_54, q135_55, q135_58, q135_59, q135_60, q135_63, q135_66, q135_69, q135_70, q135_73, q135_74, q135_75, q135_77, q135_78, q135_81, q135_82, q135_83, q135_86, q135_87, q135_88, q135_89, q135_90, q135_93, q135_94, q135_96, q135_97, q135_98, q135_99, q135_100, q135_102, q135_103, q135_104, q135_105, q135_107, q135_109, q135_111, q135_114, q135_115, q135_118, q135_120, q135_121, q135_123, q135_124, q135_127, q135_129, q135_130, q135_133, q135_135, q135_136, q135_137, q135_138, q135_141, q135_143, q135_145, q135_146, q135_149, q135_152, q135_155, q135_156, zn_neg, mg_0, mg_1, mg_2, mg_3, mg_4, mg_5, mg_6, mg_7, mg_8, mg_9, mg_10, mg_11, mg_12, mg_13, mg_14, mg_15, mg_16, mg_17, mg_18, mg_19, mp_0, mp_2, mp_10, mp_11, mp_12, mp_18, mt_0, ma_tx, ms_tx, ma_td, ms_td, ma_ki, ms_ki, ma_kd, ms_kd, ma_pe, ms_pe, ma_sk, ms_sk, ma_wo, ms_wo, ma_sl, ms_sl, ma_sa, ms_sa, ma_wy, ms_wy, ma_be, ms_be, ma_po, ms_po, ma_mh, ms_mh, ma_go, ms_go, hC, nI_add, pk_mul, pk_sub, zn_lt, zn_eq, zn_lt0, zn_eq0, zn_0lt, zb_0, zb_k, zn_k1, zn_k0, ite_not, Nat.add_zero, Nat.zero_add, Nat.reduceAdd, Nat.reduceSub, Nat.reduceMul, Option.bind_some, Option.bind_none, Option.toList_some, Option.toList_none, List.cons_append, List.nil_append, if_true, if_false, zif_t, zif_f, eq_self, zpiv]
  | succ m ih =>
    intro hm
    have h1 := hw m (by omega)
    have h2 := hw (m + 1) (by omega)
    rw [q135_11]; simp (disch := first | omega | exact mt_0 hC) only [q135_0, q135_1, q135_4, q135_5, q135_6, q135_7, q135_8, q135_9, q135_10, q135_12, q135_15, q135_16, q135_19, q135_20, q135_21, q135_22, q135_25, q135_26, q135_27, q135_28, q135_29, q135_32, q135_35, q135_38, q135_39, q135_42, q135_43, q135_45, q135_46, q135_47, q135_48, q135_49, q135_52, q135_53, q135_54, q135_55, q135_58, q135_59, q135_60, q135_63, q135_66, q135_69, q135_70, q135_73, q135_74, q135_75, q135_77, q135_78, q135_81, q135_82, q135_83, q135_86, q135_87, q135_88, q135_89, q135_90, q135_93, q135_94, q135_96, q135_97, q135_98, q135_99, q135_100, q135_102, q135_103, q135_104, q135_105, q135_107, q135_109, q135_111, q135_114, q135_115, q135_118, q135_120, q135_121, q135_123, q135_124, q135_127, q135_129, q135_130, q135_133, q135_135, q135_136, q135_137, q135_138, q135_141, q135_143, q135_145, q135_146, q135_149, q135_152, q135_155, q135_156, mg_0, mg_1, mg_2, mg_3, mg_4, mg_5, mg_6, mg_7, mg_8, mg_9, mg_10, mg_11, mg_12, mg_13, mg_14, mg_15, mg_16, mg_17, mg_18, mg_19, mp_0, mp_2, mp_10, mp_11, mp_12, mp_18, mt_0, ma_tx, ms_tx, ma_td, ms_td, ma_ki, ms_ki, ma_kd, ms_kd, ma_pe, ms_pe, ma_sk, ms_sk, ma_wo, ms_wo, ma_sl, ms_sl, ma_sa, ms_sa, ma_wy, ms_wy, ma_be, ms_be, ma_po, ms_po, ma_mh, ms_mh, ma_go, ms_go, hC, nI_add, pk_mul, pk_sub, zn_lt, zn_eq, zn_lt0, zn_eq0, zn_0lt, zb_0, zb_k, zn_k1, zn_k0, ite_not, Nat.add_zero, Nat.zero_add, Nat.reduceAdd, Nat.reduceSub, Nat.reduceMul, Option.bind_some, Option.bind_none, Option.toList_some, Option.toList_none, List.cons_append, List.nil_append, if_true, if_false, zif_t, zif_f, eq_self, Nat.add_sub_cancel, zpiv]
    by_cases hh : wy (m + 1) < wy m
    · simp only [hh, if_true]
      exact ih (by omega)
    · simp only [hh, if_false]
theorem l_nwB (hC : C.length = 104) (hw : ∀ j, j < 6 → wy j < 6) {v1 v4 v5 v6 : Value} {k : Nat} : ∀ j, k ≤ j → j < 6 → zev xs L 135 48 [.ref 104, v1, .int (nI k), .int (nI j), v4, v5, v6] [] (C ++ zM len at_ kep don see fit tx td ki kd pe sk wo sl sa wy be po mh go) = zev xs L 135 69 [.ref 104, v1, .int (nI k), .int (nI (zfj wy (wy k) j)), v4, v5, v6] [] (C ++ zM len at_ kep don see fit tx td ki kd pe sk wo sl sa wy be po mh go) := by
  intro j
  induction j with
  | zero => intro hk _
            obtain rfl : k = 0 := by omega
            have h1 := hw 0 (by omega)
            rw [q135_48]; simp (disch := first | omega | exact mt_0 hC) only [q135_0, q135_1, q135_4, q135_5, q135_6, q135_7, q135_8, q135_9, q135_10, q135_11, q135_12, q135_15, q135_16, q135_19, q135_20, q135_21, q135_22, q135_25, q135_26, q135_27, q135_28, q135_29, q135_32, q135_35, q135_38, q135_39, q135_42, q135_43, q135_44, q135_45, q135_46, q135_47, q135_49, q135_52, q135_53, q135_54, q135_55, q135_58, q135_59, q135_60, q135_63, q135_66, q135_70, q135_73, q135_74, q135_75, q135_77, q135_78, q135_81, q135_82, q135_83, q135_86, q135_87, q135_88, q135_89, q135_90, q135_93, q135_94, q135_96, q135_97, q135_98, q135_99, q135_100, q135_102, q135_103, q135_104, q135_105, q135_107, q135_109, q135_111, q135_114, q135_115, q135_118, q135_120, q135_121, q135_123, q135_124, q135_127, q135_129, q135_130, q135_133, q135_135, q135_136, q135_137, q135_138, q135_141, q135_143, q135_145, q135_146, q135_149, q135_152, q135_155, q135_156, mg_0, mg_1, mg_2, mg_3, mg_4, mg_5, mg_6, mg_7, mg_8, mg_9, mg_10, mg_11, mg_12, mg_13, mg_14, mg_15, mg_16, mg_17, mg_18, mg_19, mp_0, mp_2, mp_10, mp_11, mp_12, mp_18, mt_0, ma_tx, ms_tx, ma_td, ms_td, ma_ki, ms_ki, ma_kd, ms_kd, ma_pe, ms_pe, ma_sk, ms_sk, ma_wo, ms_wo, ma_sl, ms_sl, ma_sa, ms_sa, ma_wy, ms_wy, ma_be, ms_be, ma_po, ms_po, ma_mh, ms_mh, ma_go, ms_go, hC, nI_add, pk_mul, pk_sub, zn_lt, zn_eq, zn_lt0, zn_eq0, zn_0lt, zb_0, zb_k, zn_k1, zn_k0, ite_not, Nat.add_zero, Nat.zero_add, Nat.reduceAdd, Nat.reduceSub, Nat.reduceMul, Option.bind_some, Option.bind_none, Option.toList_some, Option.toList_none, List.cons_append, List.nil_append, if_true, if_false, zif_t, zif_f, eq_self, zfj]
  | succ j ih =>
    intro hk hj
    have h1 := hw k (by omega)
    have h2 := hw (j + 1) (by omega)
    rw [q135_48]; simp (disch := first | omega | exact mt_0 hC) only [q135_0, q135_1, q135_4, q135_5, q135_6, q135_7, q135_8, q135_9, q135_10, q135_11, q135_12, q135_15, q135_16, q135_19, q135_20, q135_21, q135_22, q135_25, q135_26, q135_27, q135_28, q135_29, q135_32, q135_35, q135_38, q135_39, q135_42, q135_43, q135_44, q135_45, q135_46, q135_47, q135_49, q135_52, q135_53, q135_54, q135_55, q135_58, q135_59, q135_60, q135_63, q135_66, q135_70, q135_73, q135_74, q135_75, q135_77, q135_78, q135_81, q135_82, q135_83, q135_86, q135_87, q135_88, q135_89, q135_90, q135_93, q135_94, q135_96, q135_97, q135_98, q135_99, q135_100, q135_102, q135_103, q135_104, q135_105, q135_107, q135_109, q135_111, q135_114, q135_115, q135_118, q135_120, q135_121, q135_123, q135_124, q135_127, q135_129, q135_130, q135_133, q135_135, q135_136, q135_137, q135_138, q135_141, q135_143, q135_145, q135_146, q135_149, q135_152, q135_155, q135_156, mg_0, mg_1, mg_2, mg_3, mg_4, mg_5, mg_6, mg_7, mg_8, mg_9, mg_10, mg_11, mg_12, mg_13, mg_14, mg_15, mg_16, mg_17, mg_18, mg_19, mp_0, mp_2, mp_10, mp_11, mp_12, mp_18, mt_0, ma_tx, ms_tx, ma_td, ms_td, ma_ki, ms_ki, ma_kd, ms_kd, ma_pe, ms_pe, ma_sk, ms_sk, ma_wo, ms_wo, ma_sl, ms_sl, ma_sa, ms_sa, ma_wy, ms_wy, ma_be, ms_be, ma_po, ms_po, ma_mh, ms_mh, ma_go, ms_go, hC, nI_add, pk_mul, pk_sub, zn_lt, zn_eq, zn_lt0, zn_eq0, zn_0lt, zb_0, zb_k, zn_k1, zn_k0, ite_not, Nat.add_zero, Nat.zero_add, Nat.reduceAdd, Nat.reduceSub, Nat.reduceMul, Option.bind_some, Option.bind_none, Option.toList_some, Option.toList_none, List.cons_append, List.nil_append, if_true, if_false, zif_t, zif_f, eq_self, Nat.add_sub_cancel, zfj]
    by_cases hh : wy (j + 1) < wy k
    · simp only [hh, if_true]
      exact ih (by by_cases he : k = j + 1; (· subst he; omega); omega) (by omega)
    · simp only [hh, if_false]
theorem l_nwC (hC : C.length = 104) {v1 v2 v3 : Value} : ∀ (r a b : Nat) (w : Nat → Nat) (v4 : Value), b < 6 → a ≤ 6 → b ≤ a + 2 * r → zev xs L 135 107 [.ref 104, v1, v2, v3, v4, .int (nI a), .int (nI b)] [] (C ++ zM len at_ kep don see fit tx td ki kd pe sk wo sl sa (w) be po mh go) = some (some (.int (nI 1)), C ++ zM len at_ kep don see fit tx td ki kd pe sk wo sl sa (zrev r w a b) be po mh go) := by
  intro r
  induction r with
  | zero => intro a b w v4 hb ha hr
            rw [q135_107]; simp (disch := first | omega | exact mt_0 hC) only [q135_0, q135_1, q135_4, q135_5, q135_6, q135_7, q135_8, q135_9, q135_10, q135_11, q135_12, q135_15, q135_16, q135_19, q135_20, q135_21, q135_22, q135_25, q135_26, q135_27, q135_28, q135_29, q135_32, q135_35, q135_38, q135_39, q135_42, q135_43, q135_44, q135_45, q135_46, q135_47, q135_48, q135_49, q135_52, q135_53, q135_54, q135_55, q135_58, q135_59, q135_60, q135_63, q135_66, q135_69, q135_70, q135_73, q135_74, q135_75, q135_77, q135_78, q135_81, q135_82, q135_83, q135_86, q135_87, q135_88, q135_89, q135_90, q135_93, q135_94, q135_96, q135_97, q135_98, q135_99, q135_100, q135_102, q135_103, q135_104, q135_105, q135_109, q135_111, q135_114, q135_115, q135_118, q135_120, q135_121, q135_123, q135_124, q135_127, q135_129, q135_130, q135_133, q135_135, q135_136, q135_137, q135_138, q135_141, q135_143, q135_145, q135_146, q135_149, q135_152, q135_155, q135_156, mg_0, mg_1, mg_2, mg_3, mg_4, mg_5, mg_6, mg_7, mg_8, mg_9, mg_10, mg_11, mg_12, mg_13, mg_14, mg_15, mg_16, mg_17, mg_18, mg_19, mp_0, mp_2, mp_10, mp_11, mp_12, mp_18, mt_0, ma_tx, ms_tx, ma_td, ms_td, ma_ki, ms_ki, ma_kd, ms_kd, ma_pe, ms_pe, ma_sk, ms_sk, ma_wo, ms_wo, ma_sl, ms_sl, ma_sa, ms_sa, ma_wy, ms_wy, ma_be, ms_be, ma_po, ms_po, ma_mh, ms_mh, ma_go, ms_go, hC, nI_add, pk_mul, pk_sub, zn_lt, zn_eq, zn_lt0, zn_eq0, zn_0lt, zb_0, zb_k, zn_k1, zn_k0, ite_not, Nat.add_zero, Nat.zero_add, Nat.reduceAdd, Nat.reduceSub, Nat.reduceMul, Option.bind_some, Option.bind_none, Option.toList_some, Option.toList_none, List.cons_append, List.nil_append, if_true, if_false, zif_t, zif_f, eq_self, zrev]
  | succ r ih =>
    intro a b w v4 hb ha hr
    rw [q135_107]; simp (disch := first | omega | exact mt_0 hC) only [q135_0, q135_1, q135_4, q135_5, q135_6, q135_7, q135_8, q135_9, q135_10, q135_11, q135_12, q135_15, q135_16, q135_19, q135_20, q135_21, q135_22, q135_25, q135_26, q135_27, q135_28, q135_29, q135_32, q135_35, q135_38, q135_39, q135_42, q135_43, q135_44, q135_45, q135_46, q135_47, q135_48, q135_49, q135_52, q135_53, q135_54, q135_55, q135_58, q135_59, q135_60, q135_63, q135_66, q135_69, q135_70, q135_73, q135_74, q135_75, q135_77, q135_78, q135_81, q135_82, q135_83, q135_86, q135_87, q135_88, q135_89, q135_90, q135_93, q135_94, q135_96, q135_97, q135_98, q135_99, q135_100, q135_102, q135_103, q135_104, q135_105, q135_109, q135_111, q135_114, q135_115, q135_118, q135_120, q135_121, q135_123, q135_124, q135_127, q135_129, q135_130, q135_133, q135_135, q135_136, q135_137, q135_138, q135_141, q135_143, q135_145, q135_146, q135_149, q135_152, q135_155, q135_156, mg_0, mg_1, mg_2, mg_3, mg_4, mg_5, mg_6, mg_7, mg_8, mg_9, mg_10, mg_11, mg_12, mg_13, mg_14, mg_15, mg_16, mg_17, mg_18, mg_19, mp_0, mp_2, mp_10, mp_11, mp_12, mp_18, mt_0, ma_tx, ms_tx, ma_td, ms_td, ma_ki, ms_ki, ma_kd, ms_kd, ma_pe, ms_pe, ma_sk, ms_sk, ma_wo, ms_wo, ma_sl, ms_sl, ma_sa, ms_sa, ma_wy, ms_wy, ma_be, ms_be, ma_po, ms_po, ma_mh, ms_mh, ma_go, ms_go, hC, nI_add, pk_mul, pk_sub, zn_lt, zn_eq, zn_lt0, zn_eq0, zn_0lt, zb_0, zb_k, zn_k1, zn_k0, ite_not, Nat.add_zero, Nat.zero_add, Nat.reduceAdd, Nat.reduceSub, Nat.reduceMul, Option.bind_some, Option.bind_none, Option.toList_some, Option.toList_none, List.cons_append, List.nil_append, if_true, if_false, zif_t, zif_f, eq_self, zrev]
    by_cases hh : a < b
    · simp (disch := first | omega | exact mt_0 hC) only [hh, q135_0, q135_1, q135_4, q135_5, q135_6, q135_7, q135_8, q135_9, q135_10, q135_11, q135_12, q135_15, q135_16, q135_19, q135_20, q135_21, q135_22, q135_25, q135_26, q135_27, q135_28, q135_29, q135_32, q135_35, q135_38, q135_39, q135_42, q135_43, q135_44, q135_45, q135_46, q135_47, q135_48, q135_49, q135_52, q135_53, q135_54, q135_55, q135_58, q135_59, q135_60, q135_63, q135_66, q135_69, q135_70, q135_73, q135_74, q135_75, q135_77, q135_78, q135_81, q135_82, q135_83, q135_86, q135_87, q135_88, q135_89, q135_90, q135_93, q135_94, q135_96, q135_97, q135_98, q135_99, q135_100, q135_102, q135_103, q135_104, q135_105, q135_109, q135_111, q135_114, q135_115, q135_118, q135_120, q135_121, q135_123, q135_124, q135_127, q135_129, q135_130, q135_133, q135_135, q135_136, q135_137, q135_138, q135_141, q135_143, q135_145, q135_146, q135_149, q135_152, q135_155, q135_156, mg_0, mg_1, mg_2, mg_3, mg_4, mg_5, mg_6, mg_7, mg_8, mg_9, mg_10, mg_11, mg_12, mg_13, mg_14, mg_15, mg_16, mg_17, mg_18, mg_19, mp_0, mp_2, mp_10, mp_11, mp_12, mp_18, mt_0, ma_tx, ms_tx, ma_td, ms_td, ma_ki, ms_ki, ma_kd, ms_kd, ma_pe, ms_pe, ma_sk, ms_sk, ma_wo, ms_wo, ma_sl, ms_sl, ma_sa, ms_sa, ma_wy, ms_wy, ma_be, ms_be, ma_po, ms_po, ma_mh, ms_mh, ma_go, ms_go, hC, nI_add, pk_mul, pk_sub, zn_lt, zn_eq, zn_lt0, zn_eq0, zn_0lt, zb_0, zb_k, zn_k1, zn_k0, ite_not, Nat.add_zero, Nat.zero_add, Nat.reduceAdd, Nat.reduceSub, Nat.reduceMul, Option.bind_some, Option.bind_none, Option.toList_some, Option.toList_none, List.cons_append, List.nil_append, if_true, if_false, zif_t, zif_f, eq_self]
      exact ih (a + 1) (b - 1) (zsw w a b) _ (by omega) (by omega) (by omega)
    · simp (disch := first | omega | exact mt_0 hC) only [hh, q135_0, q135_1, q135_4, q135_5, q135_6, q135_7, q135_8, q135_9, q135_10, q135_11, q135_12, q135_15, q135_16, q135_19, q135_20, q135_21, q135_22, q135_25, q135_26, q135_27, q135_28, q135_29, q135_32, q135_35, q135_38, q135_39, q135_42, q135_43, q135_44, q135_45, q135_46, q135_47, q135_48, q135_49, q135_52, q135_53, q135_54, q135_55, q135_58, q135_59, q135_60, q135_63, q135_66, q135_69, q135_70, q135_73, q135_74, q135_75, q135_77, q135_78, q135_81, q135_82, q135_83, q135_86, q135_87, q135_88, q135_89, q135_90, q135_93, q135_94, q135_96, q135_97, q135_98, q135_99, q135_100, q135_102, q135_103, q135_104, q135_105, q135_109, q135_111, q135_114, q135_115, q135_118, q135_120, q135_121, q135_123, q135_124, q135_127, q135_129, q135_130, q135_133, q135_135, q135_136, q135_137, q135_138, q135_141, q135_143, q135_145, q135_146, q135_149, q135_152, q135_155, q135_156, mg_0, mg_1, mg_2, mg_3, mg_4, mg_5, mg_6, mg_7, mg_8, mg_9, mg_10, mg_11, mg_12, mg_13, mg_14, mg_15, mg_16, mg_17, mg_18, mg_19, mp_0, mp_2, mp_10, mp_11, mp_12, mp_18, mt_0, ma_tx, ms_tx, ma_td, ms_td, ma_ki, ms_ki, ma_kd, ms_kd, ma_pe, ms_pe, ma_sk, ms_sk, ma_wo, ms_wo, ma_sl, ms_sl, ma_sa, ms_sa, ma_wy, ms_wy, ma_be, ms_be, ma_po, ms_po, ma_mh, ms_mh, ma_go, ms_go, hC, nI_add, pk_mul, pk_sub, zn_lt, zn_eq, zn_lt0, zn_eq0, zn_0lt, zb_0, zb_k, zn_k1, zn_k0, ite_not, Nat.add_zero, Nat.zero_add, Nat.reduceAdd, Nat.reduceSub, Nat.reduceMul, Option.bind_some, Option.bind_none, Option.toList_some, Option.toList_none, List.cons_append, List.nil_append, if_true, if_false, zif_t, zif_f, eq_self]
theorem e_nextWay (hC : C.length = 104) (hP : 1 ≤ pe 0 ∧ pe 0 ≤ 6) (hw : ∀ j, j < 6 → wy j < 6) : zev xs L 135 0 [.ref 104, .null, .null, .null, .null, .null, .null] [] (C ++ zM len at_ kep don see fit tx td ki kd pe sk wo sl sa wy be po mh go) = some (some (.int (zb (znb (pe 0) wy = true))), C ++ zM len at_ kep don see fit tx td ki kd pe sk wo sl sa (znd (pe 0) wy) be po mh go) := by
  simp (disch := first | omega | exact mt_0 hC) only [q135_0, q135_1, q135_4, q135_5, q135_6, q135_7, q135_8, q135_9, q135_10, q135_12, q135_15, q135_16, q135_19, q135_20, q135_21, q135_22, q135_25, q135_26, q135_27, q135_28, q135_29, q135_32, q135_35, q135_38, q135_39, q135_42, q135_43, q135_44, q135_45, q135_46, q135_47, q135_48, q135_49, q135_52, q135_53, q135_54, q135_55, q135_58, q135_59, q135_60, q135_63, q135_66, q135_69, q135_70, q135_73, q135_74, q135_75, q135_77, q135_78, q135_81, q135_82, q135_83, q135_86, q135_87, q135_88, q135_89, q135_90, q135_93, q135_94, q135_96, q135_97, q135_98, q135_99, q135_100, q135_102, q135_103, q135_104, q135_105, q135_107, q135_109, q135_111, q135_114, q135_115, q135_118, q135_120, q135_121, q135_123, q135_124, q135_127, q135_129, q135_130, q135_133, q135_135, q135_136, q135_137, q135_138, q135_141, q135_143, q135_145, q135_146, q135_149, q135_152, q135_155, q135_156, mg_0, mg_1, mg_2, mg_3, mg_4, mg_5, mg_6, mg_7, mg_8, mg_9, mg_10, mg_11, mg_12, mg_13, mg_14, mg_15, mg_16, mg_17, mg_18, mg_19, mp_0, mp_2, mp_10, mp_11, mp_12, mp_18, mt_0, ma_tx, ms_tx, ma_td, ms_td, ma_ki, ms_ki, ma_kd, ms_kd, ma_pe, ms_pe, ma_sk, ms_sk, ma_wo, ms_wo, ma_sl, ms_sl, ma_sa, ms_sa, ma_wy, ms_wy, ma_be, ms_be, ma_po, ms_po, ma_mh, ms_mh, ma_go, ms_go, hC, nI_add, pk_mul, pk_sub, zn_lt, zn_eq, zn_lt0, zn_eq0, zn_0lt, zb_0, zb_k, zn_k1, zn_k0, ite_not, Nat.add_zero, Nat.zero_add, Nat.reduceAdd, Nat.reduceSub, Nat.reduceMul, Option.bind_some, Option.bind_none, Option.toList_some, Option.toList_none, List.cons_append, List.nil_append, if_true, if_false, zif_t, zif_f, eq_self, zn_m2]
  rw [l_nwA hC hw (pe 0 - 1) (by omega)]
  cases hp : zpiv wy (pe 0 - 1) with
  | none =>
    have e : znx (pe 0) wy = none := znx_none hp
    simp only [znb, znd, e, Option.isSome_none, Option.getD_none, zb, Bool.false_eq_true, if_false]
  | some k =>
    have hk := zpiv_lt hp
    have e : znx (pe 0) wy = _ := znx_some hp
    have hj := zfj_le (w := wy) (p := wy k) (j := pe 0 - 1)
    simp only [znb, znd, e, Option.isSome_some, Option.getD_some, zb, if_true]
    simp (disch := first | omega | exact mt_0 hC) only [q135_0, q135_1, q135_4, q135_5, q135_6, q135_7, q135_8, q135_9, q135_10, q135_12, q135_15, q135_16, q135_19, q135_20, q135_21, q135_22, q135_25, q135_26, q135_27, q135_28, q135_29, q135_32, q135_35, q135_38, q135_39, q135_42, q135_43, q135_44, q135_45, q135_46, q135_47, q135_49, q135_52, q135_53, q135_54, q135_55, q135_58, q135_59, q135_60, q135_63, q135_66, q135_70, q135_73, q135_74, q135_75, q135_77, q135_78, q135_81, q135_82, q135_83, q135_86, q135_87, q135_88, q135_89, q135_90, q135_93, q135_94, q135_96, q135_97, q135_98, q135_99, q135_100, q135_102, q135_103, q135_104, q135_105, q135_107, q135_109, q135_111, q135_114, q135_115, q135_118, q135_120, q135_121, q135_123, q135_124, q135_127, q135_129, q135_130, q135_133, q135_135, q135_136, q135_137, q135_138, q135_141, q135_143, q135_145, q135_146, q135_149, q135_152, q135_155, q135_156, mg_0, mg_1, mg_2, mg_3, mg_4, mg_5, mg_6, mg_7, mg_8, mg_9, mg_10, mg_11, mg_12, mg_13, mg_14, mg_15, mg_16, mg_17, mg_18, mg_19, mp_0, mp_2, mp_10, mp_11, mp_12, mp_18, mt_0, ma_tx, ms_tx, ma_td, ms_td, ma_ki, ms_ki, ma_kd, ms_kd, ma_pe, ms_pe, ma_sk, ms_sk, ma_wo, ms_wo, ma_sl, ms_sl, ma_sa, ms_sa, ma_wy, ms_wy, ma_be, ms_be, ma_po, ms_po, ma_mh, ms_mh, ma_go, ms_go, hC, nI_add, pk_mul, pk_sub, zn_lt, zn_eq, zn_lt0, zn_eq0, zn_0lt, zb_0, zb_k, zn_k1, zn_k0, ite_not, Nat.add_zero, Nat.zero_add, Nat.reduceAdd, Nat.reduceSub, Nat.reduceMul, Option.bind_some, Option.bind_none, Option.toList_some, Option.toList_none, List.cons_append, List.nil_append, if_true, if_false, zif_t, zif_f, eq_self]
    rw [l_nwB hC hw (pe 0 - 1) (by omega) (by omega)]
    simp (disch := first | omega | exact mt_0 hC) only [q135_0, q135_1, q135_4, q135_5, q135_6, q135_7, q135_8, q135_9, q135_10, q135_12, q135_15, q135_16, q135_19, q135_20, q135_21, q135_22, q135_25, q135_26, q135_27, q135_28, q135_29, q135_32, q135_35, q135_38, q135_39, q135_42, q135_43, q135_44, q135_45, q135_46, q135_47, q135_49, q135_52, q135_53, q135_54, q135_55, q135_58, q135_59, q135_60, q135_63, q135_66, q135_69, q135_70, q135_73, q135_74, q135_75, q135_77, q135_78, q135_81, q135_82, q135_83, q135_86, q135_87, q135_88, q135_89, q135_90, q135_93, q135_94, q135_96, q135_97, q135_98, q135_99, q135_100, q135_102, q135_103, q135_104, q135_105, q135_109, q135_111, q135_114, q135_115, q135_118, q135_120, q135_121, q135_123, q135_124, q135_127, q135_129, q135_130, q135_133, q135_135, q135_136, q135_137, q135_138, q135_141, q135_143, q135_145, q135_146, q135_149, q135_152, q135_155, q135_156, mg_0, mg_1, mg_2, mg_3, mg_4, mg_5, mg_6, mg_7, mg_8, mg_9, mg_10, mg_11, mg_12, mg_13, mg_14, mg_15, mg_16, mg_17, mg_18, mg_19, mp_0, mp_2, mp_10, mp_11, mp_12, mp_18, mt_0, ma_tx, ms_tx, ma_td, ms_td, ma_ki, ms_ki, ma_kd, ms_kd, ma_pe, ms_pe, ma_sk, ms_sk, ma_wo, ms_wo, ma_sl, ms_sl, ma_sa, ms_sa, ma_wy, ms_wy, ma_be, ms_be, ma_po, ms_po, ma_mh, ms_mh, ma_go, ms_go, hC, nI_add, pk_mul, pk_sub, zn_lt, zn_eq, zn_lt0, zn_eq0, zn_0lt, zb_0, zb_k, zn_k1, zn_k0, ite_not, Nat.add_zero, Nat.zero_add, Nat.reduceAdd, Nat.reduceSub, Nat.reduceMul, Option.bind_some, Option.bind_none, Option.toList_some, Option.toList_none, List.cons_append, List.nil_append, if_true, if_false, zif_t, zif_f, eq_self]
    exact l_nwC hC 6 (k + 1) (pe 0 - 1) (zsw wy k (zfj wy (wy k) (pe 0 - 1))) _ (by omega) (by omega) (by omega)
end
