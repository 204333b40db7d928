/-! ===== both: reading a text ===== -/
def zRd (td ki kd pe sk wo : Nat → Nat) (k q m : Nat) (w : Int32) (c : Nat) (r g o s v : Nat → Nat) : Prop :=
  k = ki 1 ∧ ki 1 ≤ 5 ∧ q = pe 1 ∧ pe 1 ≤ 6 ∧ w = nI (td 2) ∧ td 2 < 64 ∧ c = td 3 ∧ td 3 < 64 ∧ m = zsum (zm3 kd) (ki 1) ∧
  (∀ j, j < ki 1 → r j = kd (15 + 3 * j) ∧ g j = kd (15 + 3 * j + 1) ∧ o j = kd (15 + 3 * j + 2) ∧ kd (15 + 3 * j) < 64 ∧ kd (15 + 3 * j + 1) < 100 ∧ 1 ≤ kd (15 + 3 * j + 2) ∧ kd (15 + 3 * j + 2) ≤ 6) ∧
  (∀ i, i < pe 1 → s i = sk (6 + i) ∧ sk (6 + i) < 64) ∧ (∀ j, j < 5 * pe 1 → v j = wo (30 + j)) ∧ (∀ j, j < 30 → v j < 10) ∧ (∀ j, j < 60 → wo j < 10)
theorem zup_at {α : Type} {f : Nat → α} {k : Nat} {x : α} {j : Nat} : va_up f k x j = if j = k then x else f j := rfl
theorem zRd_m {td ki kd pe sk wo : Nat → Nat} {k q m c : Nat} {w : Int32} {r g o s v : Nat → Nat} (h : zRd td ki kd pe sk wo k q m w c r g o s v) : m ≤ 30 := by
  obtain ⟨h1, h2, h3, h4, h5, h6, h7, h8, h9, h10, h11, h12, h13, h14⟩ := h
  have := zsum_le (f := zm3 kd) (b := 6) (n := ki 1) (fun j hj => (h10 j hj).2.2.2.2.2.2)
  omega
theorem zRd_k {td ki kd pe sk wo : Nat → Nat} {k q m c : Nat} {w : Int32} {r g o s v : Nat → Nat} (h : zRd td ki kd pe sk wo k q m w c r g o s v) {x y z : Nat} (hk : k < 5) (hx : x ≤ 63) (hy : y ≤ 99) (hz : 1 ≤ z ∧ z ≤ 6) : zRd td (va_up ki 1 (ki 1 + 1)) (va_up (va_up (va_up kd (15 + 3 * ki 1) x) (15 + 3 * ki 1 + 1) y) (15 + 3 * ki 1 + 2) z) pe sk wo (k + 1) q (m + z) w c (va_up r k x) (va_up g k y) (va_up o k z) s v := by
  obtain ⟨h1, h2, h3, h4, h5, h6, h7, h8, h9, h10, h11, h12, h13, h14⟩ := h
  have e1 : va_up ki 1 (ki 1 + 1) 1 = ki 1 + 1 := va_up_self _ _ _
  have es : zsum (zm3 (va_up (va_up (va_up kd (15 + 3 * ki 1) x) (15 + 3 * ki 1 + 1) y) (15 + 3 * ki 1 + 2) z)) (ki 1 + 1) = zsum (zm3 kd) (ki 1) + z := by
    rw [zsum]
    congr 1
    · exact zsum_congr (fun i hi => by unfold zm3; rw [va_up_ne _ _ (by omega), va_up_ne _ _ (by omega), va_up_ne _ _ (by omega)])
    · unfold zm3; rw [va_up_self]
  unfold zRd
  rw [e1, es]
  refine ⟨by omega, by omega, h3, h4, h5, h6, h7, h8, by omega, fun j hj => ?_, h11, h12, h13, h14⟩
  subst h1
  by_cases e : j = ki 1
  · subst e
    rw [va_up_self, va_up_self, va_up_self, va_up_ne _ _ (by omega), va_up_ne _ _ (by omega), va_up_self, va_up_ne _ _ (by omega), va_up_self, va_up_self]
    exact ⟨rfl, rfl, rfl, by omega, by omega, hz⟩
  · have ek : ∀ i, i < 15 + 3 * ki 1 → va_up (va_up (va_up kd (15 + 3 * ki 1) x) (15 + 3 * ki 1 + 1) y) (15 + 3 * ki 1 + 2) z i = kd i := by
      intro i hi; rw [va_up_ne _ _ (by omega), va_up_ne _ _ (by omega), va_up_ne _ _ (by omega)]
    rw [va_up_ne _ _ e, va_up_ne _ _ e, va_up_ne _ _ e, ek _ (by omega), ek _ (by omega), ek _ (by omega)]
    exact h10 j (by omega)
theorem zRd_p {td ki kd pe sk wo : Nat → Nat} {k q m c : Nat} {w : Int32} {r g o s v : Nat → Nat} (h : zRd td ki kd pe sk wo k q m w c r g o s v) {x : Nat} (hq : q < 6) (hx : x ≤ 63) : zRd td ki kd (va_up pe 1 (pe 1 + 1)) (va_up sk (6 + pe 1) x) (va_up (va_up (va_up (va_up (va_up wo (30 + 5 * pe 1) 0) (30 + 5 * pe 1 + 1) 0) (30 + 5 * pe 1 + 2) 0) (30 + 5 * pe 1 + 3) 0) (30 + 5 * pe 1 + 4) 0) k (q + 1) m w c r g o (va_up s q x) (va_up (va_up (va_up (va_up (va_up v (5 * q) 0) (5 * q + 1) 0) (5 * q + 2) 0) (5 * q + 3) 0) (5 * q + 4) 0) := by
  obtain ⟨h1, h2, h3, h4, h5, h6, h7, h8, h9, h10, h11, h12, h13, h14⟩ := h
  have e1 : va_up pe 1 (pe 1 + 1) 1 = pe 1 + 1 := va_up_self _ _ _
  subst h3
  have ev : ∀ j, va_up (va_up (va_up (va_up (va_up v (5 * pe 1) 0) (5 * pe 1 + 1) 0) (5 * pe 1 + 2) 0) (5 * pe 1 + 3) 0) (5 * pe 1 + 4) 0 j = if 5 * pe 1 ≤ j ∧ j < 5 * pe 1 + 5 then 0 else v j := by
    intro j; simp only [zup_at]
    by_cases g : 5 * pe 1 ≤ j ∧ j < 5 * pe 1 + 5
    · rw [if_pos g]; repeat' split
      all_goals first | rfl | omega
    · rw [if_neg g]; rw [if_neg (by omega), if_neg (by omega), if_neg (by omega), if_neg (by omega), if_neg (by omega)]
  have ew : ∀ j, va_up (va_up (va_up (va_up (va_up wo (30 + 5 * pe 1) 0) (30 + 5 * pe 1 + 1) 0) (30 + 5 * pe 1 + 2) 0) (30 + 5 * pe 1 + 3) 0) (30 + 5 * pe 1 + 4) 0 j = if 30 + 5 * pe 1 ≤ j ∧ j < 30 + 5 * pe 1 + 5 then 0 else wo j := by
    intro j; simp only [zup_at]
    by_cases g : 30 + 5 * pe 1 ≤ j ∧ j < 30 + 5 * pe 1 + 5
    · rw [if_pos g]; repeat' split
      all_goals first | rfl | omega
    · rw [if_neg g]; rw [if_neg (by omega), if_neg (by omega), if_neg (by omega), if_neg (by omega), if_neg (by omega)]
  unfold zRd
  rw [e1]
  refine ⟨h1, h2, rfl, by omega, h5, h6, h7, h8, h9, h10, fun i hi => ?_, fun j hj => ?_, fun j hj => ?_, fun j hj => ?_⟩
  · by_cases e : i = pe 1
    · subst e; rw [va_up_self, va_up_self]; exact ⟨rfl, by omega⟩
    · rw [va_up_ne _ _ e, va_up_ne _ _ (by omega)]; exact h11 i (by omega)
  · rw [ev, ew]
    by_cases g : 5 * pe 1 ≤ j ∧ j < 5 * pe 1 + 5
    · rw [if_pos g, if_pos (by omega)]
    · rw [if_neg g, if_neg (by omega)]; exact h12 j (by omega)
  · rw [ev]; split
    · omega
    · exact h13 j hj
  · rw [ew]; split
    · omega
    · exact h14 j hj
theorem zRd_d {td ki kd pe sk wo : Nat → Nat} {k q m c : Nat} {w : Int32} {r g o s v : Nat → Nat} (h : zRd td ki kd pe sk wo k q m w c r g o s v) {x : Nat} (hx : x ≤ 63) : zRd (va_up td 2 x) ki kd pe sk wo k q m (nI x) c r g o s v := by
  obtain ⟨h1, h2, h3, h4, h5, h6, h7, h8, h9⟩ := h
  unfold zRd
  rw [va_up_self, va_up_ne _ _ (show (3 : Nat) ≠ 2 by omega)]
  exact ⟨h1, h2, h3, h4, rfl, by omega, h7, h8, h9⟩
theorem zRd_l {td ki kd pe sk wo : Nat → Nat} {k q m c : Nat} {w : Int32} {r g o s v : Nat → Nat} (h : zRd td ki kd pe sk wo k q m w c r g o s v) {x : Nat} (hx : x < k) : zRd (va_up td 3 (td 3 ||| 2 ^ x)) ki kd pe sk wo k q m w (c ||| 2 ^ x) r g o s v := by
  obtain ⟨h1, h2, h3, h4, h5, h6, h7, h8, h9⟩ := h
  unfold zRd
  rw [va_up_self, va_up_ne _ _ (show (2 : Nat) ≠ 3 by omega)]
  have hb : (2 : Nat) ^ x < 2 ^ 6 := Nat.pow_lt_pow_right (by decide) (by omega)
  exact ⟨h1, h2, h3, h4, h5, h6, by rw [h7], Nat.or_lt_two_pow (n := 6) h8 hb, h9⟩
theorem zRd_w {td ki kd pe sk wo : Nat → Nat} {k q m c : Nat} {w : Int32} {r g o s v : Nat → Nat} {t : Nat → Nat} {len p : Nat} (h : zRd td ki kd pe sk wo k q m w c r g o s v) (hq : 1 ≤ q) (hz : ∀ j, j < k → zD t len (p + j)) : zRd td ki kd pe sk (zwoU wo t (30 + 5 * (pe 1 - 1)) p (ki 1)) k q m w c r g o s (zwoU v t (5 * (q - 1)) p k) := by
  obtain ⟨h1, h2, h3, h4, h5, h6, h7, h8, h9, h10, h11, h12, h13, h14⟩ := h
  subst h1; subst h3
  refine ⟨rfl, h2, rfl, h4, h5, h6, h7, h8, h9, h10, h11, fun j hj => ?_, zwoU_lt h13 (fun j hj => (hz j hj).2), zwoU_lt h14 (fun j hj => (hz j hj).2)⟩
  unfold zwoU
  by_cases g : 5 * (pe 1 - 1) ≤ j ∧ j < 5 * (pe 1 - 1) + ki 1
  · rw [if_pos g, if_pos (by omega)]; congr 2; omega
  · rw [if_neg g, if_neg (by omega)]; exact h12 j hj
abbrev zKLv (D : Nat) (tk tq tm : Nat → Nat) (tw : Nat → Int32) (tc : Nat → Nat) (tr tg tt ts tv : Nat → Nat → Nat) (tk' tq' tm' : Nat → Nat) (tw' : Nat → Int32) (tc' : Nat → Nat) (tr' tg' tt' ts' tv' : Nat → Nat → Nat) : Prop := ∀ e, e ≠ D → tk' e = tk e ∧ tq' e = tq e ∧ tm' e = tm e ∧ tw' e = tw e ∧ tc' e = tc e ∧ tr' e = tr e ∧ tg' e = tg e ∧ tt' e = tt e ∧ ts' e = ts e ∧ tv' e = tv e
theorem zm4_ne {p : Nat} (hp : p < 1000) : ¬ nI p = -4 := by
  intro h
  have h1 := congrArg Int32.toInt h
  rw [nI_toInt (by omega)] at h1
  have h4 : (-4 : Int32).toInt = -4 := by decide
  omega
section
variable {xs : Nat → Int32} {L : Nat} {C h H M : ZH} {tl tp : Nat} {tb : Nat → Nat} {cu : Nat} {tk tq tm : Nat → Nat} {tw : Nat → Int32} {tc : Nat → Nat} {tr tg tt ts tv : Nat → Nat → Nat} {dn dh : Nat → Nat} {dw dk de dx dt : Nat → Nat → Nat} {ps : Nat} {pd : Nat → Nat} {ks : Nat} {kq : Nat → Nat} {ss : Nat} {sc sn wm wb wr : Nat → Nat} {wp wt : Nat} {aw ak av ap an : Nat → Nat} {aq al : Nat}  {D items : Nat}
theorem l_riS (hD : D < 2) (hl : tl ≤ 300) (hp : tp < tl) (hi : items < 300) {v3 : Value} (hI : zev xs L 32 0 [.ref 1, .ref (zta D)] [] (zK tl tp tb cu tk tq tm tw tc tr tg tt ts tv dn dh dw dk de dx dt ps pd ks kq ss sc sn wm wb wr wp wt aw ak av ap an aq al ++ M) = some (some (.int (nI 1)), H)) : zev xs L 31 11 [.ref 1, .ref (zta D), .int (nI items), v3] [] (zK tl tp tb cu tk tq tm tw tc tr tg tt ts tv dn dh dw dk de dx dt ps pd ks kq ss sc sn wm wb wr wp wt aw ak av ap an aq al ++ M) = zev xs L 31 11 [.ref 1, .ref (zta D), .int (nI (items + 1)), .int (nI tp)] [] H := by
  conv => lhs; rw [q31_11]
  simp (disch := first | omega | exact kt_main | exact kt_text | exact kt_town (by omega) | exact kt_day (by omega) | exact kt_past | exact kt_kept | exact kt_sight | exact kt_ways | exact kt_alley) only [q31_0, q31_1, q31_4, q31_5, q31_6, q31_9, q31_10, q31_12, q31_15, q31_18, q31_19, q31_22, q31_23, q31_26, q31_29, q31_30, q31_33, q31_34, q31_35, q31_36, q31_39, q31_42, q31_43, q31_44, q31_47, q31_50, q31_52, hI, kg_main_0, kg_main_1, kg_main_2, kg_main_3, kg_main_4, kg_main_5, kg_main_6, kg_main_7, kg_main_8, kg_main_9, kt_main, kg_text_0, kg_text_1, kg_text_2, kp_text_1, kp_text_2, kt_text, ka_tb, ks_tb, kg_town_0, kg_town_1, kg_town_2, kg_town_3, kg_town_4, kg_town_5, kg_town_6, kg_town_7, kg_town_8, kg_town_9, kp_town_0, kp_town_1, kp_town_2, kp_town_3, kp_town_4, kt_town, ka_tr, ks_tr, ka_tg, ks_tg, ka_tt, ks_tt, ka_ts, ks_ts, ka_tv, ks_tv, kg_day_0, kg_day_1, kg_day_2, kg_day_3, kg_day_4, kg_day_5, kg_day_6, kp_day_0, kp_day_1, kt_day, ka_dw, ks_dw, ka_dk, ks_dk, ka_de, ks_de, ka_dx, ks_dx, ka_dt, ks_dt, kg_past_0, kg_past_1, kp_past_1, kt_past, kg_kept_0, kg_kept_1, kp_kept_1, kt_kept, ka_pd, ks_pd, kl_pd, ka_kq, ks_kq, kl_kq, kg_sight_0, kg_sight_1, kg_sight_2, kp_sight_2, kt_sight, ka_sc, ks_sc, ka_sn, ks_sn, kg_ways_0, kg_ways_1, kg_ways_2, kg_ways_3, kg_ways_4, kp_ways_3, kp_ways_4, kt_ways, ka_wm, ks_wm, ka_wb, ks_wb, ka_wr, ks_wr, kg_alley_0, kg_alley_1, kg_alley_2, kg_alley_3, kg_alley_4, kg_alley_5, kg_alley_6, kp_alley_5, kp_alley_6, kt_alley, ka_aw, ks_aw, ka_ak, ks_ak, ka_av, ks_av, ka_ap, ks_ap, ka_an, ks_an, kl_tv, kl_dt, kl_dw, kl_dk, ky_dw, ky_dk, ky_de, ky_dx, ky_dt, ky_aw, ky_ak, ky_av, ky_wb, nI_add, pk_mul, pk_sub, zn_lt, zn_eq, zn_lt0, zn_eq0, zn_0lt, zb_0, zb_k, zn_k1, zn_k0, ite_not, Nat.add_zero, Nat.zero_add, Nat.reduceAdd, Nat.reduceSub, Nat.reduceMul, Option.bind_some, Option.bind_none, Option.toList_some, Option.toList_none, List.cons_append, List.nil_append, if_true, if_false, zif_t, zif_f, eq_self]
theorem l_riF (hD : D < 2) (hl : tl ≤ 300) (hp : tp < tl) (hi : items < 300) {v3 : Value} (hI : zev xs L 32 0 [.ref 1, .ref (zta D)] [] (zK tl tp tb cu tk tq tm tw tc tr tg tt ts tv dn dh dw dk de dx dt ps pd ks kq ss sc sn wm wb wr wp wt aw ak av ap an aq al ++ M) = some (some (.int (nI 0)), H)) : zev xs L 31 11 [.ref 1, .ref (zta D), .int (nI items), v3] [] (zK tl tp tb cu tk tq tm tw tc tr tg tt ts tv dn dh dw dk de dx dt ps pd ks kq ss sc sn wm wb wr wp wt aw ak av ap an aq al ++ M) = some (some (.int (nI tp)), H) := by
  rw [q31_11]; simp (disch := first | omega | exact kt_main | exact kt_text | exact kt_town (by omega) | exact kt_day (by omega) | exact kt_past | exact kt_kept | exact kt_sight | exact kt_ways | exact kt_alley) only [q31_0, q31_1, q31_4, q31_5, q31_6, q31_9, q31_10, q31_12, q31_15, q31_18, q31_19, q31_22, q31_23, q31_26, q31_29, q31_30, q31_33, q31_34, q31_35, q31_36, q31_39, q31_42, q31_43, q31_44, q31_47, q31_50, q31_52, hI, kg_main_0, kg_main_1, kg_main_2, kg_main_3, kg_main_4, kg_main_5, kg_main_6, kg_main_7, kg_main_8, kg_main_9, kt_main, kg_text_0, kg_text_1, kg_text_2, kp_text_1, kp_text_2, kt_text, ka_tb, ks_tb, kg_town_0, kg_town_1, kg_town_2, kg_town_3, kg_town_4, kg_town_5, kg_town_6, kg_town_7, kg_town_8, kg_town_9, kp_town_0, kp_town_1, kp_town_2, kp_town_3, kp_town_4, kt_town, ka_tr, ks_tr, ka_tg, ks_tg, ka_tt, ks_tt, ka_ts, ks_ts, ka_tv, ks_tv, kg_day_0, kg_day_1, kg_day_2, kg_day_3, kg_day_4, kg_day_5, kg_day_6, kp_day_0, kp_day_1, kt_day, ka_dw, ks_dw, ka_dk, ks_dk, ka_de, ks_de, ka_dx, ks_dx, ka_dt, ks_dt, kg_past_0, kg_past_1, kp_past_1, kt_past, kg_kept_0, kg_kept_1, kp_kept_1, kt_kept, ka_pd, ks_pd, kl_pd, ka_kq, ks_kq, kl_kq, kg_sight_0, kg_sight_1, kg_sight_2, kp_sight_2, kt_sight, ka_sc, ks_sc, ka_sn, ks_sn, kg_ways_0, kg_ways_1, kg_ways_2, kg_ways_3, kg_ways_4, kp_ways_3, kp_ways_4, kt_ways, ka_wm, ks_wm, ka_wb, ks_wb, ka_wr, ks_wr, kg_alley_0, kg_alley_1, kg_alley_2, kg_alley_3, kg_alley_4, kg_alley_5, kg_alley_6, kp_alley_5, kp_alley_6, kt_alley, ka_aw, ks_aw, ka_ak, ks_ak, ka_av, ks_av, ka_ap, ks_ap, ka_an, ks_an, kl_tv, kl_dt, kl_dw, kl_dk, ky_dw, ky_dk, ky_de, ky_dx, ky_dt, ky_aw, ky_ak, ky_av, ky_wb, nI_add, pk_mul, pk_sub, zn_lt, zn_eq, zn_lt0, zn_eq0, zn_0lt, zb_0, zb_k, zn_k1, zn_k0, ite_not, Nat.add_zero, Nat.zero_add, Nat.reduceAdd, Nat.reduceSub, Nat.reduceMul, Option.bind_some, Option.bind_none, Option.toList_some, Option.toList_none, List.cons_append, List.nil_append, if_true, if_false, zif_t, zif_f, eq_self]
theorem l_riE (hl : tl ≤ 300) (hp : tp = tl) (hi : items ≤ 300) {v1 v3 : Value} : zev xs L 31 11 [.ref 1, v1, .int (nI items), v3] [] (zK tl tp tb cu tk tq tm tw tc tr tg tt ts tv dn dh dw dk de dx dt ps pd ks kq ss sc sn wm wb wr wp wt aw ak av ap an aq al ++ M) = some (some (.int (-4)), zK tl tp tb cu tk tq tm tw tc tr tg tt ts tv dn dh dw dk de dx dt ps pd ks kq ss sc sn wm wb wr wp wt aw ak av ap an aq al ++ M) := by
  by_cases g : items < 300
  · rw [q31_11]; simp (disch := first | omega | exact kt_main | exact kt_text | exact kt_town (by omega) | exact kt_day (by omega) | exact kt_past | exact kt_kept | exact kt_sight | exact kt_ways | exact kt_alley) only [q31_0, q31_1, q31_4, q31_5, q31_6, q31_9, q31_10, q31_12, q31_15, q31_18, q31_19, q31_22, q31_23, q31_26, q31_29, q31_30, q31_33, q31_34, q31_35, q31_36, q31_39, q31_42, q31_43, q31_44, q31_47, q31_50, q31_52, kg_main_0, kg_main_1, kg_main_2, kg_main_3, kg_main_4, kg_main_5, kg_main_6, kg_main_7, kg_main_8, kg_main_9, kt_main, kg_text_0, kg_text_1, kg_text_2, kp_text_1, kp_text_2, kt_text, ka_tb, ks_tb, kg_town_0, kg_town_1, kg_town_2, kg_town_3, kg_town_4, kg_town_5, kg_town_6, kg_town_7, kg_town_8, kg_town_9, kp_town_0, kp_town_1, kp_town_2, kp_town_3, kp_town_4, kt_town, ka_tr, ks_tr, ka_tg, ks_tg, ka_tt, ks_tt, ka_ts, ks_ts, ka_tv, ks_tv, kg_day_0, kg_day_1, kg_day_2, kg_day_3, kg_day_4, kg_day_5, kg_day_6, kp_day_0, kp_day_1, kt_day, ka_dw, ks_dw, ka_dk, ks_dk, ka_de, ks_de, ka_dx, ks_dx, ka_dt, ks_dt, kg_past_0, kg_past_1, kp_past_1, kt_past, kg_kept_0, kg_kept_1, kp_kept_1, kt_kept, ka_pd, ks_pd, kl_pd, ka_kq, ks_kq, kl_kq, kg_sight_0, kg_sight_1, kg_sight_2, kp_sight_2, kt_sight, ka_sc, ks_sc, ka_sn, ks_sn, kg_ways_0, kg_ways_1, kg_ways_2, kg_ways_3, kg_ways_4, kp_ways_3, kp_ways_4, kt_ways, ka_wm, ks_wm, ka_wb, ks_wb, ka_wr, ks_wr, kg_alley_0, kg_alley_1, kg_alley_2, kg_alley_3, kg_alley_4, kg_alley_5, kg_alley_6, kp_alley_5, kp_alley_6, kt_alley, ka_aw, ks_aw, ka_ak, ks_ak, ka_av, ks_av, ka_ap, ks_ap, ka_an, ks_an, kl_tv, kl_dt, kl_dw, kl_dk, ky_dw, ky_dk, ky_de, ky_dx, ky_dt, ky_aw, ky_ak, ky_av, ky_wb, nI_add, pk_mul, pk_sub, zn_lt, zn_eq, zn_lt0, zn_eq0, zn_0lt, zb_0, zb_k, zn_k1, zn_k0, ite_not, Nat.add_zero, Nat.zero_add, Nat.reduceAdd, Nat.reduceSub, Nat.reduceMul, Option.bind_some, Option.bind_none, Option.toList_some, Option.toList_none, List.cons_append, List.nil_append, if_true, if_false, zif_t, zif_f, eq_self]
  · rw [q31_11]; simp (disch := first | omega | exact kt_main | exact kt_text | exact kt_town (by omega) | exact kt_day (by omega) | exact kt_past | exact kt_kept | exact kt_sight | exact kt_ways | exact kt_alley) only [q31_0, q31_1, q31_4, q31_5, q31_6, q31_9, q31_10, q31_12, q31_15, q31_18, q31_19, q31_22, q31_23, q31_26, q31_29, q31_30, q31_33, q31_34, q31_35, q31_36, q31_39, q31_42, q31_43, q31_44, q31_47, q31_50, q31_52, kg_main_0, kg_main_1, kg_main_2, kg_main_3, kg_main_4, kg_main_5, kg_main_6, kg_main_7, kg_main_8, kg_main_9, kt_main, kg_text_0, kg_text_1, kg_text_2, kp_text_1, kp_text_2, kt_text, ka_tb, ks_tb, kg_town_0, kg_town_1, kg_town_2, kg_town_3, kg_town_4, kg_town_5, kg_town_6, kg_town_7, kg_town_8, kg_town_9, kp_town_0, kp_town_1, kp_town_2, kp_town_3, kp_town_4, kt_town, ka_tr, ks_tr, ka_tg, ks_tg, ka_tt, ks_tt, ka_ts, ks_ts, ka_tv, ks_tv, kg_day_0, kg_day_1, kg_day_2, kg_day_3, kg_day_4, kg_day_5, kg_day_6, kp_day_0, kp_day_1, kt_day, ka_dw, ks_dw, ka_dk, ks_dk, ka_de, ks_de, ka_dx, ks_dx, ka_dt, ks_dt, kg_past_0, kg_past_1, kp_past_1, kt_past, kg_kept_0, kg_kept_1, kp_kept_1, kt_kept, ka_pd, ks_pd, kl_pd, ka_kq, ks_kq, kl_kq, kg_sight_0, kg_sight_1, kg_sight_2, kp_sight_2, kt_sight, ka_sc, ks_sc, ka_sn, ks_sn, kg_ways_0, kg_ways_1, kg_ways_2, kg_ways_3, kg_ways_4, kp_ways_3, kp_ways_4, kt_ways, ka_wm, ks_wm, ka_wb, ks_wb, ka_wr, ks_wr, kg_alley_0, kg_alley_1, kg_alley_2, kg_alley_3, kg_alley_4, kg_alley_5, kg_alley_6, kp_alley_5, kp_alley_6, kt_alley, ka_aw, ks_aw, ka_ak, ks_ak, ka_av, ks_av, ka_ap, ks_ap, ka_an, ks_an, kl_tv, kl_dt, kl_dw, kl_dk, ky_dw, ky_dk, ky_de, ky_dx, ky_dt, ky_aw, ky_ak, ky_av, ky_wb, nI_add, pk_mul, pk_sub, zn_lt, zn_eq, zn_lt0, zn_eq0, zn_0lt, zb_0, zb_k, zn_k1, zn_k0, ite_not, Nat.add_zero, Nat.zero_add, Nat.reduceAdd, Nat.reduceSub, Nat.reduceMul, Option.bind_some, Option.bind_none, Option.toList_some, Option.toList_none, List.cons_append, List.nil_append, if_true, if_false, zif_t, zif_f, eq_self]
end
section
variable {xs : Nat → Int32} {L : Nat} {C h H M : ZH} {len at_ kep don see : Nat} {fit : Int32} {tx : Nat → Int32} {td ki kd pe sk wo sl sa wy be po mh : Nat → Nat} {go : Nat → Int32} 
theorem l_flS (hC : C.length = 104) (hl : len ≤ 300) (hp : at_ < len) {v1 : Value} (hI : zev xs L 107 0 [.ref 104, .null, .null, .null, .null] [] (C ++ zM len at_ kep don see fit tx td ki kd pe sk wo sl sa wy be po mh go) = some (some (.int (nI 1)), H)) : zev xs L 112 9 [.ref 104, v1] [] (C ++ zM len at_ kep don see fit tx td ki kd pe sk wo sl sa wy be po mh go) = zev xs L 112 9 [.ref 104, .int (nI at_)] [] H := by
  conv => lhs; rw [q112_9]
  simp (disch := first | omega | exact mt_0 hC) only [q112_0, q112_1, q112_2, q112_5, q112_6, q112_10, q112_13, q112_14, q112_17, q112_20, q112_21, q112_24, q112_25, q112_26, q112_29, q112_32, q112_33, q112_34, q112_37, q112_39, hI, mg_0, mg_1, mg_2, mg_3, mg_4, mg_5, mg_6, mg_7, mg_8, mg_9, mg_10, mg_11, mg_12, mg_13, mg_14, mg_15, mg_16, mg_17, mg_18, mg_19, mp_0, mp_2, mp_10, mp_11, mp_12, mp_18, mt_0, ma_tx, ms_tx, ma_td, ms_td, ma_ki, ms_ki, ma_kd, ms_kd, ma_pe, ms_pe, ma_sk, ms_sk, ma_wo, ms_wo, ma_sl, ms_sl, ma_sa, ms_sa, ma_wy, ms_wy, ma_be, ms_be, ma_po, ms_po, ma_mh, ms_mh, ma_go, ms_go, hC, nI_add, pk_mul, pk_sub, zn_lt, zn_eq, zn_lt0, zn_eq0, zn_0lt, zb_0, zb_k, zn_k1, zn_k0, ite_not, Nat.add_zero, Nat.zero_add, Nat.reduceAdd, Nat.reduceSub, Nat.reduceMul, Option.bind_some, Option.bind_none, Option.toList_some, Option.toList_none, List.cons_append, List.nil_append, if_true, if_false, zif_t, zif_f, eq_self]
theorem l_flF (hC : C.length = 104) (hl : len ≤ 300) (hp : at_ < len) {v1 : Value} (hI : zev xs L 107 0 [.ref 104, .null, .null, .null, .null] [] (C ++ zM len at_ kep don see fit tx td ki kd pe sk wo sl sa wy be po mh go) = some (some (.int (nI 0)), H)) : zev xs L 112 9 [.ref 104, v1] [] (C ++ zM len at_ kep don see fit tx td ki kd pe sk wo sl sa wy be po mh go) = some (some (.int (nI at_)), H) := by
  rw [q112_9]; simp (disch := first | omega | exact mt_0 hC) only [q112_0, q112_1, q112_2, q112_5, q112_6, q112_10, q112_13, q112_14, q112_17, q112_20, q112_21, q112_24, q112_25, q112_26, q112_29, q112_32, q112_33, q112_34, q112_37, q112_39, hI, mg_0, mg_1, mg_2, mg_3, mg_4, mg_5, mg_6, mg_7, mg_8, mg_9, mg_10, mg_11, mg_12, mg_13, mg_14, mg_15, mg_16, mg_17, mg_18, mg_19, mp_0, mp_2, mp_10, mp_11, mp_12, mp_18, mt_0, ma_tx, ms_tx, ma_td, ms_td, ma_ki, ms_ki, ma_kd, ms_kd, ma_pe, ms_pe, ma_sk, ms_sk, ma_wo, ms_wo, ma_sl, ms_sl, ma_sa, ms_sa, ma_wy, ms_wy, ma_be, ms_be, ma_po, ms_po, ma_mh, ms_mh, ma_go, ms_go, hC, nI_add, pk_mul, pk_sub, zn_lt, zn_eq, zn_lt0, zn_eq0, zn_0lt, zb_0, zb_k, zn_k1, zn_k0, ite_not, Nat.add_zero, Nat.zero_add, Nat.reduceAdd, Nat.reduceSub, Nat.reduceMul, Option.bind_some, Option.bind_none, Option.toList_some, Option.toList_none, List.cons_append, List.nil_append, if_true, if_false, zif_t, zif_f, eq_self]
theorem l_flE (hC : C.length = 104) (hl : len ≤ 300) (hp : at_ = len) {v1 : Value} : zev xs L 112 9 [.ref 104, v1] [] (C ++ zM len at_ kep don see fit tx td ki kd pe sk wo sl sa wy be po mh go) = some (some (.int (-4)), C ++ zM len at_ kep don see fit tx td ki kd pe sk wo sl sa wy be po mh go) := by
  rw [q112_9]; simp (disch := first | omega | exact mt_0 hC) only [q112_0, q112_1, q112_2, q112_5, q112_6, q112_10, q112_13, q112_14, q112_17, q112_20, q112_21, q112_24, q112_25, q112_26, q112_29, q112_32, q112_33, q112_34, q112_37, q112_39, mg_0, mg_1, mg_2, mg_3, mg_4, mg_5, mg_6, mg_7, mg_8, mg_9, mg_10, mg_11, mg_12, mg_13, mg_14, mg_15, mg_16, mg_17, mg_18, mg_19, mp_0, mp_2, mp_10, mp_11, mp_12, mp_18, mt_0, ma_tx, ms_tx, ma_td, ms_td, ma_ki, ms_ki, ma_kd, ms_kd, ma_pe, ms_pe, ma_sk, ms_sk, ma_wo, ms_wo, ma_sl, ms_sl, ma_sa, ms_sa, ma_wy, ms_wy, ma_be, ms_be, ma_po, ms_po, ma_mh, ms_mh, ma_go, ms_go, hC, nI_add, pk_mul, pk_sub, zn_lt, zn_eq, zn_lt0, zn_eq0, zn_0lt, zb_0, zb_k, zn_k1, zn_k0, ite_not, Nat.add_zero, Nat.zero_add, Nat.reduceAdd, Nat.reduceSub, Nat.reduceMul, Option.bind_some, Option.bind_none, Option.toList_some, Option.toList_none, List.cons_append, List.nil_append, if_true, if_false, zif_t, zif_f, eq_self]
end
