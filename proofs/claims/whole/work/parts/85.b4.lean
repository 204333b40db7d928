/-! ===== both: fault, lay ===== -/
theorem zlayQ_s {k m : Nat} {s : Nat → Nat} : ∀ {q : Nat}, m + q ≤ 6 → (∀ j, j < 6 → zlayQ k m q s j = if m ≤ j ∧ j < m + q then j else s j) ∧ (∀ i, i < 6 → zlayQ k m q s (6 + i) = zkq k m q (fun i => s (6 + i)) i) ∧ ∀ j, 12 ≤ j → zlayQ k m q s j = s j
  | 0, _ => ⟨fun j _ => by rw [if_neg (by omega)]; rfl, fun _ _ => rfl, fun _ _ => rfl⟩
  | q + 1, h => by
    obtain ⟨h1, h2, h3⟩ := zlayQ_s (k := k) (m := m) (s := s) (q := q) (by omega)
    unfold zlayQ zkq
    refine ⟨fun j hj => ?_, fun i hi => ?_, fun j hj => ?_⟩
    · rw [va_up_ne _ _ (by omega)]
      by_cases e : j = m + q
      · rw [e, va_up_self, if_pos (by omega)]
      · rw [va_up_ne _ _ e, h1 j hj]
        by_cases c : m ≤ j ∧ j < m + q
        · rw [if_pos c, if_pos (by omega)]
        · rw [if_neg c, if_neg (by omega)]
    · by_cases e : i = m + q
      · rw [e, va_up_self, va_up_self]
      · rw [va_up_ne _ _ (by omega), va_up_ne _ _ (by omega), va_up_ne _ _ e]; exact h2 i hi
    · rw [va_up_ne _ _ (by omega), va_up_ne _ _ (by omega)]; exact h3 j hj
theorem zkq_c {k m : Nat} {f g : Nat → Nat} {b : Nat} (h : ∀ i, i < b → f i = g i) : ∀ {q : Nat}, ∀ i, i < b → zkq k m q f i = zkq k m q g i
  | 0 => h
  | q + 1 => by
    intro i hi
    have e := zkq_c (k := k) (m := m) h (q := q) i hi
    unfold zkq
    simp only [zup_at, e]
theorem zkL_c {td3 td3' f g : Nat → Nat} {b : Nat} (h : ∀ i, i < b → f i = g i) : ∀ {K : Nat}, (∀ k, k < K → td3 k = td3' k) → ∀ i, i < b → zkL td3 K f i = zkL td3' K g i
  | 0, _ => h
  | K + 1, ht => by
    have e := zkL_c h (K := K) (fun k hk => ht k (by omega))
    intro i hi
    unfold zkL
    rw [ht K (by omega), zsum_congr (f := td3) (g := td3') (fun k hk => ht k (by omega))]
    exact zkq_c e i hi
theorem zkq_b {k m c : Nat} {f : Nat → Nat} {b : Nat} (hk : k < c) (h : ∀ i, i < b → f i < c) : ∀ {q : Nat}, ∀ i, i < b → zkq k m q f i < c
  | 0 => h
  | q + 1 => by
    intro i hi
    have e := zkq_b (m := m) hk h (q := q) i hi
    unfold zkq
    rw [zup_at]
    split
    · exact hk
    · exact e
theorem zkL_b {td3 f : Nat → Nat} {b c : Nat} (h : ∀ i, i < b → f i < c) : ∀ {K : Nat}, K ≤ c → ∀ i, i < b → zkL td3 K f i < c
  | 0, _ => h
  | K + 1, hK => by
    unfold zkL
    exact zkq_b (by omega) (zkL_b h (by omega))
theorem zlayK_s {td3 s : Nat → Nat} : ∀ {K : Nat}, zsum td3 K ≤ 6 → (∀ j, j < zsum td3 K → zlayK td3 K s j = j) ∧ (∀ j, zsum td3 K ≤ j → j < 6 → zlayK td3 K s j = s j) ∧ (∀ i, i < 6 → zlayK td3 K s (6 + i) = zkL td3 K (fun i => s (6 + i)) i) ∧ ∀ j, 12 ≤ j → zlayK td3 K s j = s j
  | 0, _ => ⟨fun j hj => by unfold zsum at hj; omega, fun _ _ _ => rfl, fun _ _ => rfl, fun _ _ => rfl⟩
  | K + 1, h => by
    have hs : zsum td3 (K + 1) = zsum td3 K + td3 K := rfl
    rw [hs] at h ⊢
    obtain ⟨h1, h2, h3, h4⟩ := zlayK_s (td3 := td3) (s := s) (K := K) (by omega)
    obtain ⟨g1, g2, g3⟩ := zlayQ_s (k := K) (m := zsum td3 K) (s := zlayK td3 K s) (q := td3 K) h
    unfold zlayK zkL
    refine ⟨fun j hj => ?_, fun j hj hj6 => ?_, fun i hi => ?_, fun j hj => ?_⟩
    · rw [g1 j (by omega)]
      by_cases c : zsum td3 K ≤ j ∧ j < zsum td3 K + td3 K
      · rw [if_pos c]
      · rw [if_neg c]; exact h1 j (by omega)
    · rw [g1 j hj6, if_neg (by omega)]; exact h2 j (by omega) hj6
    · rw [g2 i hi]; exact zkq_c h3 i hi
    · rw [g3 j hj]; exact h4 j hj
theorem zR2_live {k q : Nat} {w : Int32} {c : Nat} {r g o s v : Nat → Nat} {td ki kd pe sk wo td' ki' kd' pe' sk' wo' : Nat → Nat} (h : zR2 k q w c r g o s v td ki kd pe sk wo) (hl : zLive td ki kd pe sk wo td' ki' kd' pe' sk' wo') (hw : ∀ j, j < 60 → wo' j < 10) : zR2 k q w c r g o s v td' ki' kd' pe' sk' wo' := by
  obtain ⟨k1, k2, q1, q2, w1, w2, c1, c2, r1, s1, v1, v2, v3⟩ := h
  obtain ⟨a1, a2, a3, a4, a5, a6, a7⟩ := hl
  unfold zR2
  rw [a1, a2, a3, a4]
  exact ⟨k1, k2, q1, q2, w1, w2, c1, c2, fun j hj => by rw [a5 _ (by omega), a5 _ (by omega), a5 _ (by omega)]; exact r1 j hj, fun i hi => by rw [a6 _ (by omega)]; exact s1 i hi, fun j hj => by rw [a7 _ (by omega)]; exact v1 j hj, v2, hw⟩
/-- the two towns' names changed -/
def zKx (x y : Nat) (C : ZH) : ZH := C.set 0 (7, [.ref 1, .ref x, .ref y, .ref (zda 0), .ref (zda 1), .ref 27, .ref 77, .ref 91, .ref 94, .ref 98])
section
variable {xs : Nat → Int32} {L : Nat} {M : ZH} {tl tp : Nat} {tb : Nat → Nat} {cu : Nat} {tk tq tm : Nat → Nat} {tw : Nat → Int32} {tc : Nat → Nat} {tr tg tt ts tv : Nat → Nat → Nat} {dn dh : Nat → Nat} {dw dk de dx dt : Nat → Nat → Nat} {ps : Nat} {pd : Nat → Nat} {ks : Nat} {kq : Nat → Nat} {ss : Nat} {sc sn wm wb wr : Nat → Nat} {wp wt : Nat} {aw ak av ap an : Nat → Nat} {aq al : Nat}  {len at_ kep don see : Nat} {fit : Int32} {tx : Nat → Int32} {td ki kd pe sk wo sl sa wy be po mh : Nat → Nat} {go : Nat → Int32} 
theorem kx1 {x : Nat} : zput (zK tl tp tb cu tk tq tm tw tc tr tg tt ts tv dn dh dw dk de dx dt ps pd ks kq ss sc sn wm wb wr wp wt aw ak av ap an aq al ++ M) 0 7 1 (.ref x) = some (zKx x (zta (1 - cu)) (zK tl tp tb cu tk tq tm tw tc tr tg tt ts tv dn dh dw dk de dx dt ps pd ks kq ss sc sn wm wb wr wp wt aw ak av ap an aq al) ++ M) := zput_of kc_main (Nat.le_of_ble_eq_true rfl) rfl rfl
theorem kx2 {x y z : Nat} : zput (zKx x y (zK tl tp tb cu tk tq tm tw tc tr tg tt ts tv dn dh dw dk de dx dt ps pd ks kq ss sc sn wm wb wr wp wt aw ak av ap an aq al) ++ M) 0 7 2 (.ref z) = some (zKx x z (zK tl tp tb cu tk tq tm tw tc tr tg tt ts tv dn dh dw dk de dx dt ps pd ks kq ss sc sn wm wb wr wp wt aw ak av ap an aq al) ++ M) := by
  refine zput_of (ci := 7) (fs := [.ref 1, .ref x, .ref y, .ref (zda 0), .ref (zda 1), .ref 27, .ref 77, .ref 91, .ref 94, .ref 98]) rfl (Nat.le_of_ble_eq_true rfl) rfl rfl
theorem kx3 (hcu : cu < 2) : zKx (zta (1 - cu)) (zta cu) (zK tl tp tb cu tk tq tm tw tc tr tg tt ts tv dn dh dw dk de dx dt ps pd ks kq ss sc sn wm wb wr wp wt aw ak av ap an aq al) = zK tl tp tb (1 - cu) tk tq tm tw tc tr tg tt ts tv dn dh dw dk de dx dt ps pd ks kq ss sc sn wm wb wr wp wt aw ak av ap an aq al := by
  have e : 1 - (1 - cu) = cu := by omega
  unfold zKx zK
  rw [e]
  rfl
theorem b_read (hR : zRR tl tp tb cu tk tq tm tw tc tr tg tt ts tv dn dh dw dk de dx dt ps pd ks kq ss sc sn wm wb wr wp wt aw ak av ap an aq al len at_ kep don see fit tx td ki kd pe sk wo sl sa wy be po mh go) : ∃ (ans : Int32) (tp' : Nat) (tk' tq' tm' : Nat → Nat) (tw' : Nat → Int32) (tc' : Nat → Nat) (tr' tg' tt' ts' tv' : Nat → Nat → Nat), zKLv (1 - cu) tk tq tm tw tc tr tg tt ts tv tk' tq' tm' tw' tc' tr' tg' tt' ts' tv' ∧ (∀ j, j < 30 → tv' (1 - cu) j < 10) ∧ (∀ M : ZH, zev xs L 31 0 [.ref 1, .ref (zta (1 - cu)), .null, .null] [] (zK tl tp tb cu tk tq tm tw tc tr tg tt ts tv dn dh dw dk de dx dt ps pd ks kq ss sc sn wm wb wr wp wt aw ak av ap an aq al ++ M) = some (some (.int ans), zK tl (tp') tb cu (tk') (tq') (tm') (tw') (tc') (tr') (tg') (tt') (ts') (tv') dn dh dw dk de dx dt ps pd ks kq ss sc sn wm wb wr wp wt aw ak av ap an aq al ++ M)) ∧
    ∀ C : ZH, C.length = 104 → ∃ (at' : Nat) (td' ki' kd' pe' sk' wo' : Nat → Nat) (go' : Nat → Int32), zLive td ki kd pe sk wo td' ki' kd' pe' sk' wo' ∧ (∀ j, j < 60 → wo' j < 10) ∧ zev xs L 112 0 [.ref 104, .null] [] (C ++ zM len at_ kep don see fit tx td ki kd pe sk wo sl sa wy be po mh go) = some (some (.int ans), C ++ zM len (at') kep don see fit tx (td') (ki') (kd') (pe') (sk') (wo') sl sa wy be po mh (go')) ∧ (ans = -4 → zRd td' ki' kd' pe' sk' wo' (tk' (1 - cu)) (tq' (1 - cu)) (tm' (1 - cu)) (tw' (1 - cu)) (tc' (1 - cu)) (tr' (1 - cu)) (tg' (1 - cu)) (tt' (1 - cu)) (ts' (1 - cu)) (tv' (1 - cu))) := by
  obtain ⟨hcu, ⟨t1, t2, t3, t4⟩, R2, hv2, R3, R4, R5⟩ := id hR
  obtain ⟨k1, k2, q1, q2, w1, w2, c1, c2, r1, s1, v1, v2, v3⟩ := id R2
  obtain ⟨⟨⟨n1, n2, n3, n4, n5, n6, n7, n8, n9, n10⟩, n11⟩, p1, p2, p3, p4, p5, p6, p7, p8, p9⟩ := id R3
  simp only [Nat.mul_zero, Nat.zero_add] at n1 n3 n4 n6 n7 n8 n9 n10
  have hq2 : 1 ≤ tq cu ∧ tq cu ≤ 6 := by rw [q1]; exact q2
  have hk2 : tk cu ≤ 5 := by rw [k1]; exact k2.2
  have F5 : ∀ m, m < 6 → dk 0 m < 5 := fun m hm => by have := (n7 m hm).2; omega
  have S5 : ∀ m, m < 6 → sl (6 + m) < 5 := fun m hm => by have := n7 m hm; omega
  have H6 : dh 0 < 64 := Nat.lt_of_lt_of_le n2 (Nat.le_trans (Nat.pow_le_pow_right (by decide) q2.2) (by decide))
  have hl3 : len ≤ 300 := by omega
  have hdo : don ≤ 8 := by omega
  have KW : ∀ i, i < pe 0 → dk 0 (dw 0 i) = sl (6 + sl i) := fun i hi => by rw [(n7 _ (n5 i (by omega))).1, n4 i hi]
  have hD : 1 - cu < 2 := by omega
  obtain ⟨ans, tp', tk', tq', tm', tw', tc', tr', tg', tt', ts', tv', z1, z2, z3, z4⟩ := z_read (xs := xs) (L := L) (tl := tl) (tb := tb) (cu := cu) (tr := tr) (tg := tg) (tt := tt) (ts := ts) (tv := tv) (dn := dn) (dh := dh) (dw := dw) (dk := dk) (de := de) (dx := dx) (dt := dt) (ps := ps) (pd := pd) (ks := ks) (kq := kq) (ss := ss) (sc := sc) (sn := sn) (wm := wm) (wb := wb) (wr := wr) (wp := wp) (wt := wt) (aw := aw) (ak := ak) (av := av) (ap := ap) (an := an) (aq := aq) (al := al) (tp := 0) (tk := va_up tk (1 - cu) 0) (tq := va_up tq (1 - cu) 0) (tm := va_up tm (1 - cu) 0) (tw := va_up tw (1 - cu) (nI 0)) (tc := va_up tc (1 - cu) 0) (kep := kep) (don := don) (see := see) (fit := fit) (tx := tx) (td := va_up (va_up td 2 0) 3 0) (ki := va_up ki 1 0) (kd := kd) (pe := va_up pe 1 0) (sk := sk) (wo := wo) (sl := sl) (sa := sa) (wy := wy) (be := be) (po := po) (mh := mh) (go := go) (D := 1 - cu) (items := 0) hD t2 t3 t4 300 (by omega) (by omega) (by omega) (by
    simp only [va_up_self]
    have e1 : va_up ki 1 0 1 = 0 := va_up_self _ _ _
    have e2 : va_up pe 1 0 1 = 0 := va_up_self _ _ _
    have e3 : va_up (va_up td 2 0) 3 0 2 = 0 := by rw [va_up_ne _ _ (by omega), va_up_self]
    have e4 : va_up (va_up td 2 0) 3 0 3 = 0 := va_up_self _ _ _
    unfold zRd
    rw [e1, e2, e3, e4]
    exact ⟨rfl, by omega, rfl, by omega, rfl, by omega, rfl, by omega, rfl, fun j hj => by omega, fun j hj => by omega, fun j hj => by omega, hv2, v3⟩)
  refine ⟨ans, tp', tk', tq', tm', tw', tc', tr', tg', tt', ts', tv', zKLv_trans (fun e he => ⟨va_up_ne _ _ he, va_up_ne _ _ he, va_up_ne _ _ he, va_up_ne _ _ he, va_up_ne _ _ he, rfl, rfl, rfl, rfl, rfl⟩) z1, z2, fun M => ?_, fun C hC => ?_⟩
  · have e := z3 M .null
    have ec := k_tclear (xs := xs) (L := L) (tl := tl) (tp := tp) (tb := tb) (cu := cu) (tk := tk) (tq := tq) (tm := tm) (tw := tw) (tc := tc) (tr := tr) (tg := tg) (tt := tt) (ts := ts) (tv := tv) (dn := dn) (dh := dh) (dw := dw) (dk := dk) (de := de) (dx := dx) (dt := dt) (ps := ps) (pd := pd) (ks := ks) (kq := kq) (ss := ss) (sc := sc) (sn := sn) (wm := wm) (wb := wb) (wr := wr) (wp := wp) (wt := wt) (aw := aw) (ak := ak) (av := av) (ap := ap) (an := an) (aq := aq) (al := al) (M := M) (D := 1 - cu) hD
    simp (disch := first | omega | exact kt_main | exact kt_text | exact kt_town (by omega) | exact kt_day (by omega) | exact kt_past | exact kt_kept | exact kt_sight | exact kt_ways | exact kt_alley) only [q31_0, q31_1, q31_4, q31_5, q31_6, q31_9, q31_10, q31_12, q31_15, q31_18, q31_19, q31_22, q31_23, q31_26, q31_29, q31_30, q31_33, q31_34, q31_35, q31_36, q31_39, q31_42, q31_43, q31_44, q31_47, q31_50, q31_52, ec, e, kg_main_0, kg_main_1, kg_main_2, kg_main_3, kg_main_4, kg_main_5, kg_main_6, kg_main_7, kg_main_8, kg_main_9, kt_main, kg_text_0, kg_text_1, kg_text_2, kp_text_1, kp_text_2, kt_text, ka_tb, ks_tb, kg_town_0, kg_town_1, kg_town_2, kg_town_3, kg_town_4, kg_town_5, kg_town_6, kg_town_7, kg_town_8, kg_town_9, kp_town_0, kp_town_1, kp_town_2, kp_town_3, kp_town_4, kt_town, ka_tr, ks_tr, ka_tg, ks_tg, ka_tt, ks_tt, ka_ts, ks_ts, ka_tv, ks_tv, kg_day_0, kg_day_1, kg_day_2, kg_day_3, kg_day_4, kg_day_5, kg_day_6, kp_day_0, kp_day_1, kt_day, ka_dw, ks_dw, ka_dk, ks_dk, ka_de, ks_de, ka_dx, ks_dx, ka_dt, ks_dt, kg_past_0, kg_past_1, kp_past_1, kt_past, kg_kept_0, kg_kept_1, kp_kept_1, kt_kept, ka_pd, ks_pd, kl_pd, ka_kq, ks_kq, kl_kq, kg_sight_0, kg_sight_1, kg_sight_2, kp_sight_2, kt_sight, ka_sc, ks_sc, ka_sn, ks_sn, kg_ways_0, kg_ways_1, kg_ways_2, kg_ways_3, kg_ways_4, kp_ways_3, kp_ways_4, kt_ways, ka_wm, ks_wm, ka_wb, ks_wb, ka_wr, ks_wr, kg_alley_0, kg_alley_1, kg_alley_2, kg_alley_3, kg_alley_4, kg_alley_5, kg_alley_6, kp_alley_5, kp_alley_6, kt_alley, ka_aw, ks_aw, ka_ak, ks_ak, ka_av, ks_av, ka_ap, ks_ap, ka_an, ks_an, kl_tv, kl_dt, kl_dw, kl_dk, ky_dw, ky_dk, ky_de, ky_dx, ky_dt, ky_aw, ky_ak, ky_av, ky_wb, nI_add, pk_mul, pk_sub, zn_lt, zn_eq, zn_lt0, zn_eq0, zn_0lt, zb_0, zb_k, zn_k1, zn_k0, ite_not, Nat.add_zero, Nat.zero_add, Nat.reduceAdd, Nat.reduceSub, Nat.reduceMul, Option.bind_some, Option.bind_none, Option.toList_some, Option.toList_none, List.cons_append, List.nil_append, if_true, if_false, zif_t, zif_f, eq_self]
  · obtain ⟨at', td', ki', kd', pe', sk', wo', go', y1, y2, y3, y4⟩ := z4 C .null hC
    refine ⟨at', td', ki', kd', pe', sk', wo', go', ?_, y2, ?_, y4⟩
    · obtain ⟨a1, a2, a3, a4, a5, a6, a7⟩ := y1
      exact ⟨by rw [a1, va_up_ne _ _ (by omega), va_up_ne _ _ (by omega)], by rw [a2, va_up_ne _ _ (by omega), va_up_ne _ _ (by omega)], by rw [a3, va_up_ne _ _ (by omega)], by rw [a4, va_up_ne _ _ (by omega)], a5, a6, a7⟩
    · rw [← t1] at y3
      have eb := e_begins (xs := xs) (L := L) (len := len) (kep := kep) (don := don) (see := see) (fit := fit) (tx := tx) (td := td) (ki := ki) (kd := kd) (pe := pe) (sk := sk) (wo := wo) (sl := sl) (sa := sa) (wy := wy) (be := be) (po := po) (mh := mh) (go := go) (at_ := 0) (C := C) hC
      simp (disch := first | omega | exact mt_0 hC) only [q112_0, q112_1, q112_2, q112_5, q112_6, q112_10, q112_13, q112_14, q112_17, q112_20, q112_21, q112_24, q112_25, q112_26, q112_29, q112_32, q112_33, q112_34, q112_37, q112_39, eb, y3, mg_0, mg_1, mg_2, mg_3, mg_4, mg_5, mg_6, mg_7, mg_8, mg_9, mg_10, mg_11, mg_12, mg_13, mg_14, mg_15, mg_16, mg_17, mg_18, mg_19, mp_0, mp_2, mp_10, mp_11, mp_12, mp_18, mt_0, ma_tx, ms_tx, ma_td, ms_td, ma_ki, ms_ki, ma_kd, ms_kd, ma_pe, ms_pe, ma_sk, ms_sk, ma_wo, ms_wo, ma_sl, ms_sl, ma_sa, ms_sa, ma_wy, ms_wy, ma_be, ms_be, ma_po, ms_po, ma_mh, ms_mh, ma_go, ms_go, hC, nI_add, pk_mul, pk_sub, zn_lt, zn_eq, zn_lt0, zn_eq0, zn_0lt, zb_0, zb_k, zn_k1, zn_k0, ite_not, Nat.add_zero, Nat.zero_add, Nat.reduceAdd, Nat.reduceSub, Nat.reduceMul, Option.bind_some, Option.bind_none, Option.toList_some, Option.toList_none, List.cons_append, List.nil_append, if_true, if_false, zif_t, zif_f, eq_self]
theorem zRR_live (hR : zRR tl tp tb cu tk tq tm tw tc tr tg tt ts tv dn dh dw dk de dx dt ps pd ks kq ss sc sn wm wb wr wp wt aw ak av ap an aq al len at_ kep don see fit tx td ki kd pe sk wo sl sa wy be po mh go) {tp' : Nat} {tk' tq' tm' : Nat → Nat} {tw' : Nat → Int32} {tc' : Nat → Nat} {tr' tg' tt' ts' tv' : Nat → Nat → Nat} {at' : Nat} {td' ki' kd' pe' sk' wo' : Nat → Nat} {go' : Nat → Int32} (z1 : zKLv (1 - cu) tk tq tm tw tc tr tg tt ts tv tk' tq' tm' tw' tc' tr' tg' tt' ts' tv') (z2 : ∀ j, j < 30 → tv' (1 - cu) j < 10) (y1 : zLive td ki kd pe sk wo td' ki' kd' pe' sk' wo') (y2 : ∀ j, j < 60 → wo' j < 10) : zRR tl (tp') tb cu (tk') (tq') (tm') (tw') (tc') (tr') (tg') (tt') (ts') (tv') dn dh dw dk de dx dt ps pd ks kq ss sc sn wm wb wr wp wt aw ak av ap an aq al len (at') kep don see fit tx (td') (ki') (kd') (pe') (sk') (wo') sl sa wy be po mh (go') := by
  obtain ⟨hcu, ⟨t1, t2, t3, t4⟩, R2, hv2, R3, R4, R5⟩ := id hR
  obtain ⟨k1, k2, q1, q2, w1, w2, c1, c2, r1, s1, v1, v2, v3⟩ := id R2
  obtain ⟨⟨⟨n1, n2, n3, n4, n5, n6, n7, n8, n9, n10⟩, n11⟩, p1, p2, p3, p4, p5, p6, p7, p8, p9⟩ := id R3
  simp only [Nat.mul_zero, Nat.zero_add] at n1 n3 n4 n6 n7 n8 n9 n10
  have hq2 : 1 ≤ tq cu ∧ tq cu ≤ 6 := by rw [q1]; exact q2
  have hk2 : tk cu ≤ 5 := by rw [k1]; exact k2.2
  have F5 : ∀ m, m < 6 → dk 0 m < 5 := fun m hm => by have := (n7 m hm).2; omega
  have S5 : ∀ m, m < 6 → sl (6 + m) < 5 := fun m hm => by have := n7 m hm; omega
  have H6 : dh 0 < 64 := Nat.lt_of_lt_of_le n2 (Nat.le_trans (Nat.pow_le_pow_right (by decide) q2.2) (by decide))
  have hl3 : len ≤ 300 := by omega
  have hdo : don ≤ 8 := by omega
  have KW : ∀ i, i < pe 0 → dk 0 (dw 0 i) = sl (6 + sl i) := fun i hi => by rw [(n7 _ (n5 i (by omega))).1, n4 i hi]
  obtain ⟨e1, e2, e3, e4, e5, e6, e7, e8, e9, e10⟩ := z1 cu (by omega)
  unfold zRR
  rw [e1, e2, e4, e5, e6, e7, e8, e9, e10, y1.2.2.1, y1.2.2.2.1]
  exact ⟨hcu, ⟨t1, t2, t3, t4⟩, zR2_live R2 y1 y2, z2, R3, R4, R5⟩
theorem b_fault (hR : zRR tl tp tb cu tk tq tm tw tc tr tg tt ts tv dn dh dw dk de dx dt ps pd ks kq ss sc sn wm wb wr wp wt aw ak av ap an aq al len at_ kep don see fit tx td ki kd pe sk wo sl sa wy be po mh go) : zDo xs L 61 [.ref 0] 112 [.ref 104, .null] (zK tl tp tb cu tk tq tm tw tc tr tg tt ts tv dn dh dw dk de dx dt ps pd ks kq ss sc sn wm wb wr wp wt aw ak av ap an aq al ++ zM len at_ kep don see fit tx td ki kd pe sk wo sl sa wy be po mh go) := by
  obtain ⟨ans, tp', tk', tq', tm', tw', tc', tr', tg', tt', ts', tv', z1, z2, z3, z4⟩ := b_read (xs := xs) (L := L) hR
  obtain ⟨at', td', ki', kd', pe', sk', wo', go', y1, y2, y3, y4⟩ := z4 (zK tl (tp') tb cu (tk') (tq') (tm') (tw') (tc') (tr') (tg') (tt') (ts') (tv') dn dh dw dk de dx dt ps pd ks kq ss sc sn wm wb wr wp wt aw ak av ap an aq al) zK_len
  have ec : zev xs L 61 0 [.ref 0] [] (zK tl tp tb cu tk tq tm tw tc tr tg tt ts tv dn dh dw dk de dx dt ps pd ks kq ss sc sn wm wb wr wp wt aw ak av ap an aq al ++ zM len at_ kep don see fit tx td ki kd pe sk wo sl sa wy be po mh go) = some (some (.int ans), zK tl (tp') tb cu (tk') (tq') (tm') (tw') (tc') (tr') (tg') (tt') (ts') (tv') dn dh dw dk de dx dt ps pd ks kq ss sc sn wm wb wr wp wt aw ak av ap an aq al ++ zM len at_ kep don see fit tx td ki kd pe sk wo sl sa wy be po mh go) := by
    have e := z3 (zM len at_ kep don see fit tx td ki kd pe sk wo sl sa wy be po mh go)
    simp (disch := first | omega | exact kt_main | exact kt_text | exact kt_town (by omega) | exact kt_day (by omega) | exact kt_past | exact kt_kept | exact kt_sight | exact kt_ways | exact kt_alley) only [q61_0, q61_1, q61_4, q61_5, q61_8, q61_11, e, kg_main_0, kg_main_1, kg_main_2, kg_main_3, kg_main_4, kg_main_5, kg_main_6, kg_main_7, kg_main_8, kg_main_9, kt_main, kg_text_0, kg_text_1, kg_text_2, kp_text_1, kp_text_2, kt_text, ka_tb, ks_tb, kg_town_0, kg_town_1, kg_town_2, kg_town_3, kg_town_4, kg_town_5, kg_town_6, kg_town_7, kg_town_8, kg_town_9, kp_town_0, kp_town_1, kp_town_2, kp_town_3, kp_town_4, kt_town, ka_tr, ks_tr, ka_tg, ks_tg, ka_tt, ks_tt, ka_ts, ks_ts, ka_tv, ks_tv, kg_day_0, kg_day_1, kg_day_2, kg_day_3, kg_day_4, kg_day_5, kg_day_6, kp_day_0, kp_day_1, kt_day, ka_dw, ks_dw, ka_dk, ks_dk, ka_de, ks_de, ka_dx, ks_dx, ka_dt, ks_dt, kg_past_0, kg_past_1, kp_past_1, kt_past, kg_kept_0, kg_kept_1, kp_kept_1, kt_kept, ka_pd, ks_pd, kl_pd, ka_kq, ks_kq, kl_kq, kg_sight_0, kg_sight_1, kg_sight_2, kp_sight_2, kt_sight, ka_sc, ks_sc, ka_sn, ks_sn, kg_ways_0, kg_ways_1, kg_ways_2, kg_ways_3, kg_ways_4, kp_ways_3, kp_ways_4, kt_ways, ka_wm, ks_wm, ka_wb, ks_wb, ka_wr, ks_wr, kg_alley_0, kg_alley_1, kg_alley_2, kg_alley_3, kg_alley_4, kg_alley_5, kg_alley_6, kp_alley_5, kp_alley_6, kt_alley, ka_aw, ks_aw, ka_ak, ks_ak, ka_av, ks_av, ka_ap, ks_ap, ka_an, ks_an, kl_tv, kl_dt, kl_dw, kl_dk, ky_dw, ky_dk, ky_de, ky_dx, ky_dt, ky_aw, ky_ak, ky_av, ky_wb, nI_add, pk_mul, pk_sub, zn_lt, zn_eq, zn_lt0, zn_eq0, zn_0lt, zb_0, zb_k, zn_k1, zn_k0, ite_not, Nat.add_zero, Nat.zero_add, Nat.reduceAdd, Nat.reduceSub, Nat.reduceMul, Option.bind_some, Option.bind_none, Option.toList_some, Option.toList_none, List.cons_append, List.nil_append, if_true, if_false, zif_t, zif_f, eq_self]
  exact zDo_mk ec y3 (mt_0 zK_len) rfl (zRel_mk (zRR_live hR z1 z2 y1 y2))
theorem c_lay_no {ans : Int32} {H : ZH} (hr : zev xs L 31 0 [.ref 1, .ref (zta (1 - cu)), .null, .null] [] (zK tl tp tb cu tk tq tm tw tc tr tg tt ts tv dn dh dw dk de dx dt ps pd ks kq ss sc sn wm wb wr wp wt aw ak av ap an aq al ++ M) = some (some (.int ans), H)) (ha : ¬ ans = -4) : zev xs L 62 0 [.ref 0, .null] [] (zK tl tp tb cu tk tq tm tw tc tr tg tt ts tv dn dh dw dk de dx dt ps pd ks kq ss sc sn wm wb wr wp wt aw ak av ap an aq al ++ M) = some (some (.int (-2)), H) := by
  simp (disch := first | omega | exact kt_main | exact kt_text | exact kt_town (by omega) | exact kt_day (by omega) | exact kt_past | exact kt_kept | exact kt_sight | exact kt_ways | exact kt_alley) only [q62_0, q62_1, q62_4, q62_5, q62_8, q62_11, q62_13, q62_16, q62_17, q62_20, q62_23, q62_26, q62_28, q62_29, q62_30, q62_33, q62_34, q62_35, q62_36, q62_39, q62_42, q62_43, q62_44, q62_47, q62_48, q62_51, q62_52, q62_55, q62_58, q62_59, q62_62, q62_63, q62_66, q62_67, q62_70, q62_71, q62_74, q62_75, q62_78, q62_81, q62_82, q62_85, q62_88, hr, ha, kg_main_0, kg_main_1, kg_main_2, kg_main_3, kg_main_4, kg_main_5, kg_main_6, kg_main_7, kg_main_8, kg_main_9, kt_main, kg_text_0, kg_text_1, kg_text_2, kp_text_1, kp_text_2, kt_text, ka_tb, ks_tb, kg_town_0, kg_town_1, kg_town_2, kg_town_3, kg_town_4, kg_town_5, kg_town_6, kg_town_7, kg_town_8, kg_town_9, kp_town_0, kp_town_1, kp_town_2, kp_town_3, kp_town_4, kt_town, ka_tr, ks_tr, ka_tg, ks_tg, ka_tt, ks_tt, ka_ts, ks_ts, ka_tv, ks_tv, kg_day_0, kg_day_1, kg_day_2, kg_day_3, kg_day_4, kg_day_5, kg_day_6, kp_day_0, kp_day_1, kt_day, ka_dw, ks_dw, ka_dk, ks_dk, ka_de, ks_de, ka_dx, ks_dx, ka_dt, ks_dt, kg_past_0, kg_past_1, kp_past_1, kt_past, kg_kept_0, kg_kept_1, kp_kept_1, kt_kept, ka_pd, ks_pd, kl_pd, ka_kq, ks_kq, kl_kq, kg_sight_0, kg_sight_1, kg_sight_2, kp_sight_2, kt_sight, ka_sc, ks_sc, ka_sn, ks_sn, kg_ways_0, kg_ways_1, kg_ways_2, kg_ways_3, kg_ways_4, kp_ways_3, kp_ways_4, kt_ways, ka_wm, ks_wm, ka_wb, ks_wb, ka_wr, ks_wr, kg_alley_0, kg_alley_1, kg_alley_2, kg_alley_3, kg_alley_4, kg_alley_5, kg_alley_6, kp_alley_5, kp_alley_6, kt_alley, ka_aw, ks_aw, ka_ak, ks_ak, ka_av, ks_av, ka_ap, ks_ap, ka_an, ks_an, kl_tv, kl_dt, kl_dw, kl_dk, ky_dw, ky_dk, ky_de, ky_dx, ky_dt, ky_aw, ky_ak, ky_av, ky_wb, nI_add, pk_mul, pk_sub, zn_lt, zn_eq, zn_lt0, zn_eq0, zn_0lt, zb_0, zb_k, zn_k1, zn_k0, ite_not, Nat.add_zero, Nat.zero_add, Nat.reduceAdd, Nat.reduceSub, Nat.reduceMul, Option.bind_some, Option.bind_none, Option.toList_some, Option.toList_none, List.cons_append, List.nil_append, if_true, if_false, zif_t, zif_f, eq_self]
theorem c_lay (hcu : cu < 2) {tp1 : Nat} {tk1 tq1 tm1 : Nat → Nat} {tw1 : Nat → Int32} {tc1 : Nat → Nat} {tr1 tg1 tt1 ts1 tv1 : Nat → Nat → Nat} (hr : zev xs L 31 0 [.ref 1, .ref (zta (1 - cu)), .null, .null] [] (zK tl tp tb cu tk tq tm tw tc tr tg tt ts tv dn dh dw dk de dx dt ps pd ks kq ss sc sn wm wb wr wp wt aw ak av ap an aq al ++ M) = some (some (.int (-4)), zK tl (tp1) tb cu (tk1) (tq1) (tm1) (tw1) (tc1) (tr1) (tg1) (tt1) (ts1) (tv1) dn dh dw dk de dx dt ps pd ks kq ss sc sn wm wb wr wp wt aw ak av ap an aq al ++ M)) (hk : tk1 (1 - cu) ≤ 5) (hq : tq1 (1 - cu) ≤ 6) (hm : tm1 (1 - cu) < 1000000) (hs : tm1 (1 - cu) = tq1 (1 - cu) → zsum (tt1 (1 - cu)) (tk1 (1 - cu)) ≤ 6) : zev xs L 62 0 [.ref 0, .null] [] (zK tl tp tb cu tk tq tm tw tc tr tg tt ts tv dn dh dw dk de dx dt ps pd ks kq ss sc sn wm wb wr wp wt aw ak av ap an aq al ++ M) = if 0 < tk1 (1 - cu) ∧ 0 < tq1 (1 - cu) ∧ tm1 (1 - cu) = tq1 (1 - cu) then some (some (.int (nI (tq1 (1 - cu)))), zK tl (tp1) tb (1 - cu) (tk1) (tq1) (tm1) (tw1) (tc1) (tr1) (tg1) (tt1) (ts1) (tv1) (va_up dn 0 0) (va_up dh 0 0) (va_up dw 0 (zupto (fun j => j) 6 (dw 0))) (va_up dk 0 (zkL (tt1 (1 - cu)) (tk1 (1 - cu)) (zupto (fun _ => 0) 6 (dk 0)))) (va_up de 0 (zupto (fun _ => 0) 6 (de 0))) (va_up dx 0 (zupto (fun _ => 0) 6 (dx 0))) (va_up dt 0 (zupto (fun _ => 0) 30 (dt 0))) (0) pd (0) kq (0) (zupto (fun _ => 0) 6 sc) (zupto (fun _ => 0) 6 sn) wm wb wr wp wt aw ak av ap an aq al ++ M) else some (some (.int (-2)), zK tl (tp1) tb cu (tk1) (tq1) (tm1) (tw1) (tc1) (tr1) (tg1) (tt1) (ts1) (tv1) dn dh dw dk de dx dt ps pd ks kq ss sc sn wm wb wr wp wt aw ak av ap an aq al ++ M) := by
  have hD : 1 - cu < 2 := by omega
  have el := k_canlay (xs := xs) (L := L) (tl := tl) (tb := tb) (cu := cu) (dn := dn) (dh := dh) (dw := dw) (dk := dk) (de := de) (dx := dx) (dt := dt) (ps := ps) (pd := pd) (ks := ks) (kq := kq) (ss := ss) (sc := sc) (sn := sn) (wm := wm) (wb := wb) (wr := wr) (wp := wp) (wt := wt) (aw := aw) (ak := ak) (av := av) (ap := ap) (an := an) (aq := aq) (al := al) (tp := tp1) (tk := tk1) (tq := tq1) (tm := tm1) (tw := tw1) (tc := tc1) (tr := tr1) (tg := tg1) (tt := tt1) (ts := ts1) (tv := tv1) (M := M) (D := 1 - cu) hD hk hq hm
  by_cases g : 0 < tk1 (1 - cu) ∧ 0 < tq1 (1 - cu) ∧ tm1 (1 - cu) = tq1 (1 - cu)
  · rw [if_pos g]
    rw [zb_t g] at el
    have eb := k_begin (xs := xs) (L := L) (tl := tl) (tb := tb) (dn := dn) (dh := dh) (dw := dw) (dk := dk) (de := de) (dx := dx) (dt := dt) (ps := ps) (pd := pd) (ks := ks) (kq := kq) (ss := ss) (sc := sc) (sn := sn) (wm := wm) (wb := wb) (wr := wr) (wp := wp) (wt := wt) (aw := aw) (ak := ak) (av := av) (ap := ap) (an := an) (aq := aq) (al := al) (tp := tp1) (tk := tk1) (tq := tq1) (tm := tm1) (tw := tw1) (tc := tc1) (tr := tr1) (tg := tg1) (tt := tt1) (ts := ts1) (tv := tv1) (cu := 1 - cu) (M := M) (d := 0) (t := 1 - cu) (by omega) hD hk (hs g.2.2)
    simp (disch := first | omega | exact kt_main | exact kt_text | exact kt_town (by omega) | exact kt_day (by omega) | exact kt_past | exact kt_kept | exact kt_sight | exact kt_ways | exact kt_alley) only [q62_0, q62_1, q62_4, q62_5, q62_8, q62_11, q62_13, q62_16, q62_17, q62_20, q62_23, q62_26, q62_28, q62_29, q62_30, q62_33, q62_34, q62_35, q62_36, q62_39, q62_42, q62_43, q62_44, q62_47, q62_48, q62_51, q62_52, q62_55, q62_58, q62_59, q62_62, q62_63, q62_66, q62_67, q62_70, q62_71, q62_74, q62_75, q62_78, q62_81, q62_82, q62_85, q62_88, hr, el, kx1, kx2, kx3, eb, k_clear, kg_main_0, kg_main_1, kg_main_2, kg_main_3, kg_main_4, kg_main_5, kg_main_6, kg_main_7, kg_main_8, kg_main_9, kt_main, kg_text_0, kg_text_1, kg_text_2, kp_text_1, kp_text_2, kt_text, ka_tb, ks_tb, kg_town_0, kg_town_1, kg_town_2, kg_town_3, kg_town_4, kg_town_5, kg_town_6, kg_town_7, kg_town_8, kg_town_9, kp_town_0, kp_town_1, kp_town_2, kp_town_3, kp_town_4, kt_town, ka_tr, ks_tr, ka_tg, ks_tg, ka_tt, ks_tt, ka_ts, ks_ts, ka_tv, ks_tv, kg_day_0, kg_day_1, kg_day_2, kg_day_3, kg_day_4, kg_day_5, kg_day_6, kp_day_0, kp_day_1, kt_day, ka_dw, ks_dw, ka_dk, ks_dk, ka_de, ks_de, ka_dx, ks_dx, ka_dt, ks_dt, kg_past_0, kg_past_1, kp_past_1, kt_past, kg_kept_0, kg_kept_1, kp_kept_1, kt_kept, ka_pd, ks_pd, kl_pd, ka_kq, ks_kq, kl_kq, kg_sight_0, kg_sight_1, kg_sight_2, kp_sight_2, kt_sight, ka_sc, ks_sc, ka_sn, ks_sn, kg_ways_0, kg_ways_1, kg_ways_2, kg_ways_3, kg_ways_4, kp_ways_3, kp_ways_4, kt_ways, ka_wm, ks_wm, ka_wb, ks_wb, ka_wr, ks_wr, kg_alley_0, kg_alley_1, kg_alley_2, kg_alley_3, kg_alley_4, kg_alley_5, kg_alley_6, kp_alley_5, kp_alley_6, kt_alley, ka_aw, ks_aw, ka_ak, ks_ak, ka_av, ks_av, ka_ap, ks_ap, ka_an, ks_an, kl_tv, kl_dt, kl_dw, kl_dk, ky_dw, ky_dk, ky_de, ky_dx, ky_dt, ky_aw, ky_ak, ky_av, ky_wb, nI_add, pk_mul, pk_sub, zn_lt, zn_eq, zn_lt0, zn_eq0, zn_0lt, zb_0, zb_k, zn_k1, zn_k0, ite_not, Nat.add_zero, Nat.zero_add, Nat.reduceAdd, Nat.reduceSub, Nat.reduceMul, Option.bind_some, Option.bind_none, Option.toList_some, Option.toList_none, List.cons_append, List.nil_append, if_true, if_false, zif_t, zif_f, eq_self]
  · rw [if_neg g]
    rw [zb_f g] at el
    simp (disch := first | omega | exact kt_main | exact kt_text | exact kt_town (by omega) | exact kt_day (by omega) | exact kt_past | exact kt_kept | exact kt_sight | exact kt_ways | exact kt_alley) only [q62_0, q62_1, q62_4, q62_5, q62_8, q62_11, q62_13, q62_16, q62_17, q62_20, q62_23, q62_26, q62_28, q62_29, q62_30, q62_33, q62_34, q62_35, q62_36, q62_39, q62_42, q62_43, q62_44, q62_47, q62_48, q62_51, q62_52, q62_55, q62_58, q62_59, q62_62, q62_63, q62_66, q62_67, q62_70, q62_71, q62_74, q62_75, q62_78, q62_81, q62_82, q62_85, q62_88, hr, el, kg_main_0, kg_main_1, kg_main_2, kg_main_3, kg_main_4, kg_main_5, kg_main_6, kg_main_7, kg_main_8, kg_main_9, kt_main, kg_text_0, kg_text_1, kg_text_2, kp_text_1, kp_text_2, kt_text, ka_tb, ks_tb, kg_town_0, kg_town_1, kg_town_2, kg_town_3, kg_town_4, kg_town_5, kg_town_6, kg_town_7, kg_town_8, kg_town_9, kp_town_0, kp_town_1, kp_town_2, kp_town_3, kp_town_4, kt_town, ka_tr, ks_tr, ka_tg, ks_tg, ka_tt, ks_tt, ka_ts, ks_ts, ka_tv, ks_tv, kg_day_0, kg_day_1, kg_day_2, kg_day_3, kg_day_4, kg_day_5, kg_day_6, kp_day_0, kp_day_1, kt_day, ka_dw, ks_dw, ka_dk, ks_dk, ka_de, ks_de, ka_dx, ks_dx, ka_dt, ks_dt, kg_past_0, kg_past_1, kp_past_1, kt_past, kg_kept_0, kg_kept_1, kp_kept_1, kt_kept, ka_pd, ks_pd, kl_pd, ka_kq, ks_kq, kl_kq, kg_sight_0, kg_sight_1, kg_sight_2, kp_sight_2, kt_sight, ka_sc, ks_sc, ka_sn, ks_sn, kg_ways_0, kg_ways_1, kg_ways_2, kg_ways_3, kg_ways_4, kp_ways_3, kp_ways_4, kt_ways, ka_wm, ks_wm, ka_wb, ks_wb, ka_wr, ks_wr, kg_alley_0, kg_alley_1, kg_alley_2, kg_alley_3, kg_alley_4, kg_alley_5, kg_alley_6, kp_alley_5, kp_alley_6, kt_alley, ka_aw, ks_aw, ka_ak, ks_ak, ka_av, ks_av, ka_ap, ks_ap, ka_an, ks_an, kl_tv, kl_dt, kl_dw, kl_dk, ky_dw, ky_dk, ky_de, ky_dx, ky_dt, ky_aw, ky_ak, ky_av, ky_wb, nI_add, pk_mul, pk_sub, zn_lt, zn_eq, zn_lt0, zn_eq0, zn_0lt, zb_0, zb_k, zn_k1, zn_k0, ite_not, Nat.add_zero, Nat.zero_add, Nat.reduceAdd, Nat.reduceSub, Nat.reduceMul, Option.bind_some, Option.bind_none, Option.toList_some, Option.toList_none, List.cons_append, List.nil_append, if_true, if_false, zif_t, zif_f, eq_self]
end
