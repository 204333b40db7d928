/-! ===== both: lay ===== -/
theorem ztk1_l {wo : Nat → Nat} {j : Nat} (h : j < 30) : ztk1 wo 30 j = wo (30 + j) := if_pos h
theorem ztk2_l {kd : Nat → Nat} {j : Nat} (h : j < 15) : ztk2 kd 30 j = kd (15 + j) := if_pos (by omega)
theorem ztk3_l {sk : Nat → Nat} {j : Nat} (h : j < 6) : ztk3 sk 30 j = sk (6 + j) := if_pos (by omega)
theorem zDR_lay {n kn : Nat} {td3 td3' w0 f0 e0 x0 t0 sl : Nat → Nat} (hn : n ≤ 6) (hk : 1 ≤ kn) (hs : zsum td3 kn = n) (ht : ∀ k, k < kn → td3' k = td3 k) : zDR n kn 0 0 (zupto (fun j => j) 6 w0) (zkL td3' kn (zupto (fun _ => 0) 6 f0)) (zupto (fun _ => 0) 6 e0) (zupto (fun _ => 0) 6 x0) (zupto (fun _ => 0) 30 t0) (fun j => zlayK td3 kn (ztk4 sl 61) (61 * 0 + j)) := by
  have z0 : ∀ j, j < 61 → ztk4 sl 61 j = 0 := fun j hj => if_pos hj
  obtain ⟨h1, h2, h3, h4⟩ := zlayK_s (td3 := td3) (s := ztk4 sl 61) (K := kn) (by omega)
  unfold zDR
  simp only [Nat.mul_zero, Nat.zero_add]
  refine ⟨?_, Nat.two_pow_pos n, fun i hi => ?_, fun i hi => ?_, fun i hi => ?_, fun i hi => ?_, fun m hm => ?_, fun i hi => ?_, fun i hi => ?_, fun q hq => ?_⟩
  · rw [h4 60 (by omega), z0 60 (by omega)]
  · rw [h4 _ (by omega), z0 _ (by omega), Nat.zero_div]
  · rw [zupto_lt (by omega), h1 i (by omega)]
  · rw [zupto_lt hi]; exact hi
  · by_cases c : i < zsum td3 kn
    · rw [h1 i c]; exact hi
    · rw [h2 i (by omega) hi, z0 i (by omega)]; omega
  · refine ⟨?_, zkL_b (b := 6) (fun i hi => by rw [zupto_lt hi]; exact hk) (Nat.le_refl _) m hm⟩
    rw [h3 m hm]
    exact zkL_c (b := 6) (fun i hi => by rw [zupto_lt hi]; exact (z0 _ (by omega)).symm) ht m hm
  · rw [zupto_lt hi, h4 _ (by omega), z0 _ (by omega)]
  · rw [zupto_lt hi, h4 _ (by omega), z0 _ (by omega)]
  · rw [zupto_lt hq, h4 _ (by omega), z0 _ (by omega)]; exact ⟨rfl, Nat.le_refl _⟩
section
variable {xs : Nat → Int32} {L : Nat} {C M H : ZH} {tl tp : Nat} {tb : Nat → Nat} {cu : Nat} {tk tq tm : Nat → Nat} {tw : Nat → Int32} {tc : Nat → Nat} {tr tg tt ts tv : Nat → Nat → Nat} {dn dh : Nat → Nat} {dw dk de dx dt : Nat → Nat → Nat} {ps : Nat} {pd : Nat → Nat} {ks : Nat} {kq : Nat → Nat} {ss : Nat} {sc sn wm wb wr : Nat → Nat} {wp wt : Nat} {aw ak av ap an : Nat → Nat} {aq al : Nat}  {len at_ kep don see : Nat} {fit : Int32} {tx : Nat → Int32} {td ki kd pe sk wo sl sa wy be po mh : Nat → Nat} {go : Nat → Int32} 
theorem e_lay_no (hC : C.length = 104) {ans : Int32} (hf : zev xs L 112 0 [.ref 104, .null] [] (C ++ zM len at_ kep don see fit tx td ki kd pe sk wo sl sa wy be po mh go) = some (some (.int ans), H)) (ha : ¬ ans = -4) : zev xs L 113 0 [.ref 104] [] (C ++ zM len at_ kep don see fit tx td ki kd pe sk wo sl sa wy be po mh go) = some (some (.int (-2)), H) := by
  simp (disch := first | omega | exact mt_0 hC) only [q113_0, q113_1, q113_4, q113_6, q113_9, q113_10, q113_13, q113_14, q113_15, q113_18, q113_19, q113_22, q113_23, q113_24, q113_27, q113_28, q113_31, q113_32, q113_35, q113_36, q113_37, q113_40, q113_42, q113_43, q113_44, q113_47, q113_48, q113_51, q113_52, q113_53, hf, ha, mg_0, mg_1, mg_2, mg_3, mg_4, mg_5, mg_6, mg_7, mg_8, mg_9, mg_10, mg_11, mg_12, mg_13, mg_14, mg_15, mg_16, mg_17, mg_18, mg_19, mp_0, mp_2, mp_10, mp_11, mp_12, mp_18, mt_0, ma_tx, ms_tx, ma_td, ms_td, ma_ki, ms_ki, ma_kd, ms_kd, ma_pe, ms_pe, ma_sk, ms_sk, ma_wo, ms_wo, ma_sl, ms_sl, ma_sa, ms_sa, ma_wy, ms_wy, ma_be, ms_be, ma_po, ms_po, ma_mh, ms_mh, ma_go, ms_go, hC, nI_add, pk_mul, pk_sub, zn_lt, zn_eq, zn_lt0, zn_eq0, zn_0lt, zb_0, zb_k, zn_k1, zn_k0, ite_not, Nat.add_zero, Nat.zero_add, Nat.reduceAdd, Nat.reduceSub, Nat.reduceMul, Option.bind_some, Option.bind_none, Option.toList_some, Option.toList_none, List.cons_append, List.nil_append, if_true, if_false, zif_t, zif_f, eq_self]
theorem e_lay (hC : C.length = 104) {at1 : Nat} {td1 ki1 kd1 pe1 sk1 wo1 : Nat → Nat} {go1 : Nat → Int32} (hf : zev xs L 112 0 [.ref 104, .null] [] (C ++ zM len at_ kep don see fit tx td ki kd pe sk wo sl sa wy be po mh go) = some (some (.int (-4)), C ++ zM len (at1) kep don see fit tx (td1) (ki1) (kd1) (pe1) (sk1) (wo1) sl sa wy be po mh (go1))) (hk : ki1 1 ≤ 5) (hp : pe1 1 ≤ 6) (hm : zsum (zm3 kd1) (ki1 1) < 1000) (hs : zsum (zm3 kd1) (ki1 1) = pe1 1 → zsum (fun k => ztk2 kd1 30 (3 * k + 2)) (ki1 1) ≤ 6) : zev xs L 113 0 [.ref 104] [] (C ++ zM len at_ kep don see fit tx td ki kd pe sk wo sl sa wy be po mh go) = if 0 < ki1 1 ∧ 0 < pe1 1 ∧ zsum (zm3 kd1) (ki1 1) = pe1 1 then some (some (.int (nI (pe1 1))), C ++ zM len (at1) (0) (0) (0) fit tx (va_up (va_up td1 0 (td1 2)) 1 (td1 3)) (va_up ki1 0 (ki1 1)) (ztk2 kd1 30) (va_up pe1 0 (pe1 1)) (ztk3 sk1 30) (ztk1 wo1 30) (zlayK (fun k => ztk2 kd1 30 (3 * k + 2)) (ki1 1) (ztk4 sl 61)) sa wy be po mh (go1)) else some (some (.int (-2)), C ++ zM len (at1) kep don see fit tx (td1) (ki1) (kd1) (pe1) (sk1) (wo1) sl sa wy be po mh (go1)) := by
  have em := e_masks (xs := xs) (L := L) (len := len) (kep := kep) (don := don) (see := see) (fit := fit) (tx := tx) (sl := sl) (sa := sa) (wy := wy) (be := be) (po := po) (mh := mh) (at_ := at1) (td := td1) (ki := ki1) (kd := kd1) (pe := pe1) (sk := sk1) (wo := wo1) (go := go1) (C := C) hC hk
  by_cases g1 : 0 < ki1 1
  · by_cases g2 : 0 < pe1 1
    · by_cases g3 : zsum (zm3 kd1) (ki1 1) = pe1 1
      · rw [if_pos ⟨g1, g2, g3⟩]
        have et := e_takes (xs := xs) (L := L) (len := len) (kep := kep) (don := don) (see := see) (fit := fit) (tx := tx) (sl := sl) (sa := sa) (wy := wy) (be := be) (po := po) (mh := mh) (at_ := at1) (td := td1) (ki := ki1) (kd := kd1) (pe := pe1) (sk := sk1) (wo := wo1) (go := go1) (C := C) hC hk (hs g3)
        simp (disch := first | omega | exact mt_0 hC) only [q113_0, q113_1, q113_4, q113_6, q113_9, q113_10, q113_13, q113_14, q113_15, q113_18, q113_19, q113_22, q113_23, q113_24, q113_27, q113_28, q113_31, q113_32, q113_35, q113_36, q113_37, q113_40, q113_42, q113_43, q113_44, q113_47, q113_48, q113_51, q113_52, q113_53, hf, em, g3, et, va_up_self, mg_0, mg_1, mg_2, mg_3, mg_4, mg_5, mg_6, mg_7, mg_8, mg_9, mg_10, mg_11, mg_12, mg_13, mg_14, mg_15, mg_16, mg_17, mg_18, mg_19, mp_0, mp_2, mp_10, mp_11, mp_12, mp_18, mt_0, ma_tx, ms_tx, ma_td, ms_td, ma_ki, ms_ki, ma_kd, ms_kd, ma_pe, ms_pe, ma_sk, ms_sk, ma_wo, ms_wo, ma_sl, ms_sl, ma_sa, ms_sa, ma_wy, ms_wy, ma_be, ms_be, ma_po, ms_po, ma_mh, ms_mh, ma_go, ms_go, hC, nI_add, pk_mul, pk_sub, zn_lt, zn_eq, zn_lt0, zn_eq0, zn_0lt, zb_0, zb_k, zn_k1, zn_k0, ite_not, Nat.add_zero, Nat.zero_add, Nat.reduceAdd, Nat.reduceSub, Nat.reduceMul, Option.bind_some, Option.bind_none, Option.toList_some, Option.toList_none, List.cons_append, List.nil_append, if_true, if_false, zif_t, zif_f, eq_self]
      · rw [if_neg (fun q => g3 q.2.2)]
        simp (disch := first | omega | exact mt_0 hC) only [q113_0, q113_1, q113_4, q113_6, q113_9, q113_10, q113_13, q113_14, q113_15, q113_18, q113_19, q113_22, q113_23, q113_24, q113_27, q113_28, q113_31, q113_32, q113_35, q113_36, q113_37, q113_40, q113_42, q113_43, q113_44, q113_47, q113_48, q113_51, q113_52, q113_53, hf, em, g3, mg_0, mg_1, mg_2, mg_3, mg_4, mg_5, mg_6, mg_7, mg_8, mg_9, mg_10, mg_11, mg_12, mg_13, mg_14, mg_15, mg_16, mg_17, mg_18, mg_19, mp_0, mp_2, mp_10, mp_11, mp_12, mp_18, mt_0, ma_tx, ms_tx, ma_td, ms_td, ma_ki, ms_ki, ma_kd, ms_kd, ma_pe, ms_pe, ma_sk, ms_sk, ma_wo, ms_wo, ma_sl, ms_sl, ma_sa, ms_sa, ma_wy, ms_wy, ma_be, ms_be, ma_po, ms_po, ma_mh, ms_mh, ma_go, ms_go, hC, nI_add, pk_mul, pk_sub, zn_lt, zn_eq, zn_lt0, zn_eq0, zn_0lt, zb_0, zb_k, zn_k1, zn_k0, ite_not, Nat.add_zero, Nat.zero_add, Nat.reduceAdd, Nat.reduceSub, Nat.reduceMul, Option.bind_some, Option.bind_none, Option.toList_some, Option.toList_none, List.cons_append, List.nil_append, if_true, if_false, zif_t, zif_f, eq_self]
    · rw [if_neg (fun q => g2 q.2.1)]
      simp (disch := first | omega | exact mt_0 hC) only [q113_0, q113_1, q113_4, q113_6, q113_9, q113_10, q113_13, q113_14, q113_15, q113_18, q113_19, q113_22, q113_23, q113_24, q113_27, q113_28, q113_31, q113_32, q113_35, q113_36, q113_37, q113_40, q113_42, q113_43, q113_44, q113_47, q113_48, q113_51, q113_52, q113_53, hf, mg_0, mg_1, mg_2, mg_3, mg_4, mg_5, mg_6, mg_7, mg_8, mg_9, mg_10, mg_11, mg_12, mg_13, mg_14, mg_15, mg_16, mg_17, mg_18, mg_19, mp_0, mp_2, mp_10, mp_11, mp_12, mp_18, mt_0, ma_tx, ms_tx, ma_td, ms_td, ma_ki, ms_ki, ma_kd, ms_kd, ma_pe, ms_pe, ma_sk, ms_sk, ma_wo, ms_wo, ma_sl, ms_sl, ma_sa, ms_sa, ma_wy, ms_wy, ma_be, ms_be, ma_po, ms_po, ma_mh, ms_mh, ma_go, ms_go, hC, nI_add, pk_mul, pk_sub, zn_lt, zn_eq, zn_lt0, zn_eq0, zn_0lt, zb_0, zb_k, zn_k1, zn_k0, ite_not, Nat.add_zero, Nat.zero_add, Nat.reduceAdd, Nat.reduceSub, Nat.reduceMul, Option.bind_some, Option.bind_none, Option.toList_some, Option.toList_none, List.cons_append, List.nil_append, if_true, if_false, zif_t, zif_f, eq_self]
  · rw [if_neg (fun q => g1 q.1)]
    simp (disch := first | omega | exact mt_0 hC) only [q113_0, q113_1, q113_4, q113_6, q113_9, q113_10, q113_13, q113_14, q113_15, q113_18, q113_19, q113_22, q113_23, q113_24, q113_27, q113_28, q113_31, q113_32, q113_35, q113_36, q113_37, q113_40, q113_42, q113_43, q113_44, q113_47, q113_48, q113_51, q113_52, q113_53, hf, mg_0, mg_1, mg_2, mg_3, mg_4, mg_5, mg_6, mg_7, mg_8, mg_9, mg_10, mg_11, mg_12, mg_13, mg_14, mg_15, mg_16, mg_17, mg_18, mg_19, mp_0, mp_2, mp_10, mp_11, mp_12, mp_18, mt_0, ma_tx, ms_tx, ma_td, ms_td, ma_ki, ms_ki, ma_kd, ms_kd, ma_pe, ms_pe, ma_sk, ms_sk, ma_wo, ms_wo, ma_sl, ms_sl, ma_sa, ms_sa, ma_wy, ms_wy, ma_be, ms_be, ma_po, ms_po, ma_mh, ms_mh, ma_go, ms_go, hC, nI_add, pk_mul, pk_sub, zn_lt, zn_eq, zn_lt0, zn_eq0, zn_0lt, zb_0, zb_k, zn_k1, zn_k0, ite_not, Nat.add_zero, Nat.zero_add, Nat.reduceAdd, Nat.reduceSub, Nat.reduceMul, Option.bind_some, Option.bind_none, Option.toList_some, Option.toList_none, List.cons_append, List.nil_append, if_true, if_false, zif_t, zif_f, eq_self]
theorem b_lay (hR : zRR tl tp tb cu tk tq tm tw tc tr tg tt ts tv dn dh dw dk de dx dt ps pd ks kq ss sc sn wm wb wr wp wt aw ak av ap an aq al len at_ kep don see fit tx td ki kd pe sk wo sl sa wy be po mh go) : zDo xs L 62 [.ref 0, .null] 113 [.ref 104] (zK tl tp tb cu tk tq tm tw tc tr tg tt ts tv dn dh dw dk de dx dt ps pd ks kq ss sc sn wm wb wr wp wt aw ak av ap an aq al ++ zM len at_ kep don see fit tx td ki kd pe sk wo sl sa wy be po mh go) := by
  obtain ⟨ans, tp', tk', tq', tm', tw', tc', tr', tg', tt', ts', tv', z1, z2, z3, z4⟩ := b_read (xs := xs) (L := L) hR
  obtain ⟨hcu, ⟨t1, t2, t3, t4⟩, R2, hv2, R3, R4, R5⟩ := id hR
  obtain ⟨k1, k2, q1, q2, w1, w2, c1, c2, r1, s1, v1, v2, v3⟩ := id R2
  obtain ⟨⟨⟨n1, n2, n3, n4, n5, n6, n7, n8, n9, n10⟩, n11⟩, p1, p2, p3, p4, p5, p6, p7, p8, p9⟩ := id R3
  simp only [Nat.mul_zero, Nat.zero_add] at n1 n3 n4 n6 n7 n8 n9 n10
  have hq2 : 1 ≤ tq cu ∧ tq cu ≤ 6 := by rw [q1]; exact q2
  have hk2 : tk cu ≤ 5 := by rw [k1]; exact k2.2
  have F5 : ∀ m, m < 6 → dk 0 m < 5 := fun m hm => by have := (n7 m hm).2; omega
  have S5 : ∀ m, m < 6 → sl (6 + m) < 5 := fun m hm => by have := n7 m hm; omega
  have H6 : dh 0 < 64 := Nat.lt_of_lt_of_le n2 (Nat.le_trans (Nat.pow_le_pow_right (by decide) q2.2) (by decide))
  have hl3 : len ≤ 300 := by omega
  have hdo : don ≤ 8 := by omega
  have KW : ∀ i, i < pe 0 → dk 0 (dw 0 i) = sl (6 + sl i) := fun i hi => by rw [(n7 _ (n5 i (by omega))).1, n4 i hi]
  by_cases ha : ans = -4
  · subst ha
    -- what both hold of the text read
    obtain ⟨at0, td0, ki0, kd0, pe0, sk0, wo0, go0, x1, x2, x3, x4⟩ := z4 (zK tl (tp') tb cu (tk') (tq') (tm') (tw') (tc') (tr') (tg') (tt') (ts') (tv') dn dh dw dk de dx dt ps pd ks kq ss sc sn wm wb wr wp wt aw ak av ap an aq al) zK_len
    have Rd := x4 rfl
    have hm30 := zRd_m Rd
    obtain ⟨h1, h2, h3, h4, h5, h6, h7, h8, h9, h10, h11, h12, h13, h14⟩ := Rd
    have eT : ∀ k, k < ki0 1 → tt' (1 - cu) k = ztk2 kd0 30 (3 * k + 2) := fun k hk => by rw [ztk2_l (by omega), (h10 k hk).2.2.1, Nat.add_assoc]
    have eS : zsum (fun k => ztk2 kd0 30 (3 * k + 2)) (ki0 1) = zsum (zm3 kd0) (ki0 1) := zsum_congr (fun k hk => by show ztk2 kd0 30 (3 * k + 2) = kd0 (15 + 3 * k + 2); rw [ztk2_l (by omega), Nat.add_assoc])
    have eS2 : zsum (tt' (1 - cu)) (tk' (1 - cu)) = zsum (zm3 kd0) (ki0 1) := by rw [h1, ← eS]; exact zsum_congr eT
    have ec := c_lay (xs := xs) (L := L) (tl := tl) (tp := tp) (tb := tb) (cu := cu) (tk := tk) (tq := tq) (tm := tm) (tw := tw) (tc := tc) (tr := tr) (tg := tg) (tt := tt) (ts := ts) (tv := tv) (dn := dn) (dh := dh) (dw := dw) (dk := dk) (de := de) (dx := dx) (dt := dt) (ps := ps) (pd := pd) (ks := ks) (kq := kq) (ss := ss) (sc := sc) (sn := sn) (wm := wm) (wb := wb) (wr := wr) (wp := wp) (wt := wt) (aw := aw) (ak := ak) (av := av) (ap := ap) (an := an) (aq := aq) (al := al) (M := zM len at_ kep don see fit tx td ki kd pe sk wo sl sa wy be po mh go) hcu (z3 (zM len at_ kep don see fit tx td ki kd pe sk wo sl sa wy be po mh go)) (by omega) (by omega) (by omega) (by intro q; rw [eS2, ← h9, q, h3]; exact h4)
    by_cases g : 0 < tk' (1 - cu) ∧ 0 < tq' (1 - cu) ∧ tm' (1 - cu) = tq' (1 - cu)
    · rw [if_pos g] at ec
      obtain ⟨at1, td1, ki1, kd1, pe1, sk1, wo1, go1, y1, y2, y3, y4⟩ := z4 (zK tl (tp') tb (1 - cu) (tk') (tq') (tm') (tw') (tc') (tr') (tg') (tt') (ts') (tv') (va_up dn 0 0) (va_up dh 0 0) (va_up dw 0 (zupto (fun j => j) 6 (dw 0))) (va_up dk 0 (zkL (tt' (1 - cu)) (tk' (1 - cu)) (zupto (fun _ => 0) 6 (dk 0)))) (va_up de 0 (zupto (fun _ => 0) 6 (de 0))) (va_up dx 0 (zupto (fun _ => 0) 6 (dx 0))) (va_up dt 0 (zupto (fun _ => 0) 30 (dt 0))) (0) pd (0) kq (0) (zupto (fun _ => 0) 6 sc) (zupto (fun _ => 0) 6 sn) wm wb wr wp wt aw ak av ap an aq al) zK_len
      have Rd := y4 rfl
      clear x4 x3 x2 x1 h1 h2 h3 h4 h5 h6 h7 h8 h9 h10 h11 h12 h13 h14 eT eS eS2
      obtain ⟨h1, h2, h3, h4, h5, h6, h7, h8, h9, h10, h11, h12, h13, h14⟩ := Rd
      have eT : ∀ k, k < ki1 1 → tt' (1 - cu) k = ztk2 kd1 30 (3 * k + 2) := fun k hk => by rw [ztk2_l (by omega), (h10 k hk).2.2.1, Nat.add_assoc]
      have eS : zsum (fun k => ztk2 kd1 30 (3 * k + 2)) (ki1 1) = zsum (zm3 kd1) (ki1 1) := zsum_congr (fun k hk => by show ztk2 kd1 30 (3 * k + 2) = kd1 (15 + 3 * k + 2); rw [ztk2_l (by omega), Nat.add_assoc])
      have g' : 0 < ki1 1 ∧ 0 < pe1 1 ∧ zsum (zm3 kd1) (ki1 1) = pe1 1 := by rw [← h9, ← h1, ← h3]; exact g
      have e2 := e_lay (xs := xs) (L := L) (len := len) (at_ := at_) (kep := kep) (don := don) (see := see) (fit := fit) (tx := tx) (td := td) (ki := ki) (kd := kd) (pe := pe) (sk := sk) (wo := wo) (sl := sl) (sa := sa) (wy := wy) (be := be) (po := po) (mh := mh) (go := go) (C := zK tl (tp') tb (1 - cu) (tk') (tq') (tm') (tw') (tc') (tr') (tg') (tt') (ts') (tv') (va_up dn 0 0) (va_up dh 0 0) (va_up dw 0 (zupto (fun j => j) 6 (dw 0))) (va_up dk 0 (zkL (tt' (1 - cu)) (tk' (1 - cu)) (zupto (fun _ => 0) 6 (dk 0)))) (va_up de 0 (zupto (fun _ => 0) 6 (de 0))) (va_up dx 0 (zupto (fun _ => 0) 6 (dx 0))) (va_up dt 0 (zupto (fun _ => 0) 30 (dt 0))) (0) pd (0) kq (0) (zupto (fun _ => 0) 6 sc) (zupto (fun _ => 0) 6 sn) wm wb wr wp wt aw ak av ap an aq al) zK_len y3 h2 h4 (by omega) (by intro q; rw [eS, q]; exact h4)
      rw [if_pos g'] at e2
      obtain ⟨f1, f2, f3, f4, f5, f6, f7, f8, f9, f10⟩ := z1 cu (by omega)
      refine zDo_mk ec e2 (mt_0 zK_len) (by rw [h3]) (zRel_mk ?_)
      unfold zRR
      have u1 : va_up ki1 0 (ki1 1) 0 = ki1 1 := va_up_self _ _ _
      have u2 : va_up pe1 0 (pe1 1) 0 = pe1 1 := va_up_self _ _ _
      have u3 : va_up (va_up td1 0 (td1 2)) 1 (td1 3) 0 = td1 2 := by rw [va_up_ne _ _ (by omega), va_up_self]
      have u4 : va_up (va_up td1 0 (td1 2)) 1 (td1 3) 1 = td1 3 := va_up_self _ _ _
      have hD1 : 1 - (1 - cu) = cu := by omega
      rw [u1, u2, hD1, f10]
      refine ⟨by omega, ⟨t1, t2, t3, t4⟩, ?_, v2, ?_, ?_, R5⟩
      · unfold zR2
        rw [u1, u2, u3, u4]
        refine ⟨h1, ⟨by omega, h2⟩, h3, ⟨by omega, h4⟩, h5, h6, h7, h8, fun j hj => ?_, fun i hi => ?_, fun j hj => ?_, h13, fun j hj => ?_⟩
        · obtain ⟨w1, w2, w3, w4, w5, w6, w7⟩ := h10 j hj
          rw [ztk2_l (by omega), ztk2_l (by omega), ztk2_l (by omega), ← Nat.add_assoc, ← Nat.add_assoc]
          exact ⟨w1, w2, w3, w7⟩
        · rw [ztk3_l (by omega)]; exact h11 i hi
        · rw [ztk1_l (by omega)]; exact h12 j hj
        · unfold ztk1; split
          · exact h14 _ (by omega)
          · exact h14 _ hj
      · refine ⟨⟨?_, by rw [va_up_self]; omega⟩, rfl, by omega, p3, p4, fun j hj => by omega, rfl, by omega, p8, fun j hj => by omega⟩
        simp only [va_up_self]
        rw [h1]
        exact zDR_lay h4 (by omega) (by rw [eS]; exact g'.2.2) eT
      · refine ⟨rfl, by omega, fun i hi => ?_, fun k hk => by omega, fun i hi x hx => ?_⟩
        · rw [zupto_lt hi, zupto_lt hi]; exact ⟨by omega, by omega⟩
        · rw [zupto_lt hi, zupto_lt hi]
          simp only [Nat.and_zero, and_self, true_iff]
          intro k hk; omega
    · rw [if_neg g] at ec
      have g' : ¬ (0 < ki0 1 ∧ 0 < pe0 1 ∧ zsum (zm3 kd0) (ki0 1) = pe0 1) := by rw [← h9, ← h1, ← h3]; exact g
      have e2 := e_lay (xs := xs) (L := L) (len := len) (at_ := at_) (kep := kep) (don := don) (see := see) (fit := fit) (tx := tx) (td := td) (ki := ki) (kd := kd) (pe := pe) (sk := sk) (wo := wo) (sl := sl) (sa := sa) (wy := wy) (be := be) (po := po) (mh := mh) (go := go) (C := zK tl (tp') tb cu (tk') (tq') (tm') (tw') (tc') (tr') (tg') (tt') (ts') (tv') dn dh dw dk de dx dt ps pd ks kq ss sc sn wm wb wr wp wt aw ak av ap an aq al) zK_len x3 h2 h4 (by omega) (by intro q; rw [eS, q]; exact h4)
      rw [if_neg g'] at e2
      exact zDo_mk ec e2 (mt_0 zK_len) rfl (zRel_mk (zRR_live hR z1 z2 x1 x2))
  · obtain ⟨at', td', ki', kd', pe', sk', wo', go', y1, y2, y3, y4⟩ := z4 (zK tl (tp') tb cu (tk') (tq') (tm') (tw') (tc') (tr') (tg') (tt') (ts') (tv') dn dh dw dk de dx dt ps pd ks kq ss sc sn wm wb wr wp wt aw ak av ap an aq al) zK_len
    exact zDo_mk (c_lay_no (z3 _) ha) (e_lay_no zK_len y3 ha) (mt_0 zK_len) rfl (zRel_mk (zRR_live hR z1 z2 y1 y2))
end
