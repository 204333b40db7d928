/-! ===== both: chances, alleys, ways, years ===== -/
theorem zyr_rel {n kn N H z : Nat} {W F E X T wg sl kd : Nat → Nat} (h : zDR n kn N H W F E X T (fun j => sl (61 * 11 + j))) (hn : 1 ≤ n ∧ n ≤ 6) (hk : kn ≤ 5) (hg : ∀ k, k < kn → wg k = kd (3 * k + 1)) : ∀ d, zDR n kn (N + d) H (zyw z n N W d) F (zye z n N W F wg E d) X (zyt z n N W F T d) (fun j => zyr sl kd n z d (61 * 11 + j))
  | 0 => h
  | d + 1 => zDR_dawn (s := 11) (z := (z + d) % 10000) (zyr_rel h hn hk hg d) hn hk hg
theorem zcp_11 {sl : Nat → Nat} {j : Nat} (hj : j < 61) : zcp sl 0 11 61 (61 * 11 + j) = sl j := by rw [zcp_in hj]; congr 1; omega
section
variable {xs : Nat → Int32} {L : Nat} {tl tp : Nat} {tb : Nat → Nat} {cu : Nat} {tk tq tm : Nat → Nat} {tw : Nat → Int32} {tc : Nat → Nat} {tr tg tt ts tv : Nat → Nat → Nat} {dn dh : Nat → Nat} {dw dk de dx dt : Nat → Nat → Nat} {ps : Nat} {pd : Nat → Nat} {ks : Nat} {kq : Nat → Nat} {ss : Nat} {sc sn wm wb wr : Nat → Nat} {wp wt : Nat} {aw ak av ap an : Nat → Nat} {aq al : Nat}  {len at_ kep don see : Nat} {fit : Int32} {tx : Nat → Int32} {td ki kd pe sk wo sl sa wy be po mh : Nat → Nat} {go : Nat → Int32} 
theorem b_chance (hR : zRR tl tp tb cu tk tq tm tw tc tr tg tt ts tv dn dh dw dk de dx dt ps pd ks kq ss sc sn wm wb wr wp wt aw ak av ap an aq al len at_ kep don see fit tx td ki kd pe sk wo sl sa wy be po mh go) {i : Int32} : zDo xs L 72 [.ref 0, .int i, .null, .null, .null] 138 [.ref 104, .int i, .null, .null, .null, .null] (zK tl tp tb cu tk tq tm tw tc tr tg tt ts tv dn dh dw dk de dx dt ps pd ks kq ss sc sn wm wb wr wp wt aw ak av ap an aq al ++ zM len at_ kep don see fit tx td ki kd pe sk wo sl sa wy be po mh go) := by
  obtain ⟨hcu, ⟨t1, t2, t3, t4⟩, R2, hv2, R3, R4, R5⟩ := id hR
  obtain ⟨k1, k2, q1, q2, w1, w2, c1, c2, r1, s1, v1, v2, v3⟩ := id R2
  obtain ⟨⟨⟨n1, n2, n3, n4, n5, n6, n7, n8, n9, n10⟩, n11⟩, p1, p2, p3, p4, p5, p6, p7, p8, p9⟩ := id R3
  simp only [Nat.mul_zero, Nat.zero_add] at n1 n3 n4 n6 n7 n8 n9 n10
  have hq2 : 1 ≤ tq cu ∧ tq cu ≤ 6 := by rw [q1]; exact q2
  have hk2 : tk cu ≤ 5 := by rw [k1]; exact k2.2
  have F5 : ∀ m, m < 6 → dk 0 m < 5 := fun m hm => by have := (n7 m hm).2; omega
  have S5 : ∀ m, m < 6 → sl (6 + m) < 5 := fun m hm => by have := n7 m hm; omega
  have H6 : dh 0 < 64 := Nat.lt_of_lt_of_le n2 (Nat.le_trans (Nat.pow_le_pow_right (by decide) q2.2) (by decide))
  have hl3 : len ≤ 300 := by omega
  have hdo : don ≤ 8 := by omega
  have KW : ∀ i, i < pe 0 → dk 0 (dw 0 i) = sl (6 + sl i) := fun i hi => by rw [(n7 _ (n5 i (by omega))).1, n4 i hi]
  by_cases hb : 0 ≤ i.toInt ∧ i.toInt ≤ 1
  · obtain ⟨a, a1, a2, rfl⟩ := zin_9 (a := 0) (b := 1) (n := i) (by omega) (by omega)
    obtain ⟨w', r', hw', ec⟩ := c_chance (xs := xs) (L := L) (tl := tl) (tp := tp) (tb := tb) (cu := cu) (tk := tk) (tq := tq) (tm := tm) (tw := tw) (tc := tc) (tr := tr) (tg := tg) (tt := tt) (ts := ts) (tv := tv) (dn := dn) (dh := dh) (dw := dw) (dk := dk) (de := de) (dx := dx) (dt := dt) (ps := ps) (pd := pd) (ks := ks) (kq := kq) (ss := ss) (sc := sc) (sn := sn) (wm := wm) (wb := wb) (wr := wr) (wp := wp) (wt := wt) (aw := aw) (ak := ak) (av := av) (ap := ap) (an := an) (aq := aq) (al := al) (M := zM len at_ kep don see fit tx td ki kd pe sk wo sl sa wy be po mh go) hcu hq2 F5 (fun i hi => by rw [(s1 i (by omega)).1]; exact (s1 i (by omega)).2) w1 w2 R5.1 (c := a) (by omega)
    have ew : zwork (td 0) (tq cu) (dk 0) (tr cu) (ts cu) = zwork (td 0) (pe 0) (fun m => sl (6 + m)) (fun k => kd (3 * k)) sk := by
      rw [q1]; exact zwork_congr q2 (kn := ki 0) (fun m hm => n7 m hm) (fun k hk => (r1 k hk).1) (fun i hi => (s1 i hi).1)
    exact zDo_mk ec (e_chance zK_len q2 S5 (fun i hi => (s1 i hi).2) w2 (by omega)) (mt_0 zK_len) (by rw [ew, q1]) (zRel_mk ⟨hcu, ⟨t1, t2, t3, t4⟩, R2, hv2, R3, R4, ⟨hw', R5.2⟩⟩)
  · exact zDo_mk (c_chance_bad hb) (e_chance_bad hb) (mt_0 zK_len) rfl (zRel_mk hR)
theorem b_anew (hR : zRR tl tp tb cu tk tq tm tw tc tr tg tt ts tv dn dh dw dk de dx dt ps pd ks kq ss sc sn wm wb wr wp wt aw ak av ap an aq al len at_ kep don see fit tx td ki kd pe sk wo sl sa wy be po mh go) {i : Int32} : zDo xs L 73 [.ref 0, .int i, .null] 139 [.ref 104, .int i, .null, .null, .null, .null, .null, .null, .null] (zK tl tp tb cu tk tq tm tw tc tr tg tt ts tv dn dh dw dk de dx dt ps pd ks kq ss sc sn wm wb wr wp wt aw ak av ap an aq al ++ zM len at_ kep don see fit tx td ki kd pe sk wo sl sa wy be po mh go) := by
  obtain ⟨hcu, ⟨t1, t2, t3, t4⟩, R2, hv2, R3, R4, R5⟩ := id hR
  obtain ⟨k1, k2, q1, q2, w1, w2, c1, c2, r1, s1, v1, v2, v3⟩ := id R2
  obtain ⟨⟨⟨n1, n2, n3, n4, n5, n6, n7, n8, n9, n10⟩, n11⟩, p1, p2, p3, p4, p5, p6, p7, p8, p9⟩ := id R3
  simp only [Nat.mul_zero, Nat.zero_add] at n1 n3 n4 n6 n7 n8 n9 n10
  have hq2 : 1 ≤ tq cu ∧ tq cu ≤ 6 := by rw [q1]; exact q2
  have hk2 : tk cu ≤ 5 := by rw [k1]; exact k2.2
  have F5 : ∀ m, m < 6 → dk 0 m < 5 := fun m hm => by have := (n7 m hm).2; omega
  have S5 : ∀ m, m < 6 → sl (6 + m) < 5 := fun m hm => by have := n7 m hm; omega
  have H6 : dh 0 < 64 := Nat.lt_of_lt_of_le n2 (Nat.le_trans (Nat.pow_le_pow_right (by decide) q2.2) (by decide))
  have hl3 : len ≤ 300 := by omega
  have hdo : don ≤ 8 := by omega
  have KW : ∀ i, i < pe 0 → dk 0 (dw 0 i) = sl (6 + sl i) := fun i hi => by rw [(n7 _ (n5 i (by omega))).1, n4 i hi]
  by_cases hb : 0 ≤ i.toInt ∧ i.toInt ≤ 1
  · obtain ⟨a, a1, a2, rfl⟩ := zin_9 (a := 0) (b := 1) (n := i) (by omega) (by omega)
    obtain ⟨w', r', hw', ec⟩ := c_anew (xs := xs) (L := L) (tl := tl) (tp := tp) (tb := tb) (cu := cu) (tk := tk) (tq := tq) (tm := tm) (tw := tw) (tc := tc) (tr := tr) (tg := tg) (tt := tt) (ts := ts) (tv := tv) (dn := dn) (dh := dh) (dw := dw) (dk := dk) (de := de) (dx := dx) (dt := dt) (ps := ps) (pd := pd) (ks := ks) (kq := kq) (ss := ss) (sc := sc) (sn := sn) (wm := wm) (wb := wb) (wr := wr) (wp := wp) (wt := wt) (aw := aw) (ak := ak) (av := av) (ap := ap) (an := an) (aq := aq) (al := al) (M := zM len at_ kep don see fit tx td ki kd pe sk wo sl sa wy be po mh go) hcu hq2 hk2 (fun i hi => by rw [(s1 i (by omega)).1]; exact (s1 i (by omega)).2) w1 w2 F5 R5.1 (c := a) (by omega) rfl
    have ew : zwork (td 0) (pe 0) (dk 0) (tr cu) (ts cu) = zwork (td 0) (pe 0) (fun m => sl (6 + m)) (fun k => kd (3 * k)) sk :=
      zwork_congr q2 (kn := ki 0) (fun m hm => n7 m hm) (fun k hk => (r1 k hk).1) (fun i hi => (s1 i hi).1)
    have eb : (zanM (zV (td 0) (tq cu) (dk 0) (tr cu) (ts cu)) (tk cu) (tq cu) (zwork (td 0) (tq cu) (dk 0) (tr cu) (ts cu), 0)).2 = (zanM (zV (td 0) (pe 0) (fun m => sl (6 + m)) (fun k => kd (3 * k)) sk) (ki 0) (pe 0) (zwork (td 0) (pe 0) (fun m => sl (6 + m)) (fun k => kd (3 * k)) sk, 0)).2 := by
      rw [q1, k1, ew, zanM_b (V' := zV (td 0) (pe 0) (fun m => sl (6 + m)) (fun k => kd (3 * k)) sk) (fun m k hm hk => ?_)]
      unfold zV
      refine zwork_congr q2 (kn := ki 0) (fun q hq => ?_) (fun k hk => (r1 k hk).1) (fun i hi => (s1 i hi).1)
      by_cases e : q = m
      · subst e; rw [va_up_self, va_up_self]; exact ⟨rfl, hk⟩
      · rw [va_up_ne _ _ e, va_up_ne _ _ e]; exact n7 q hq
    refine zDo_mk ec (e_anew zK_len q2 k2.2 S5 (fun i hi => (s1 i hi).2) w2 (by omega) rfl) (mt_0 zK_len) (by rw [eb]) (zRel_mk ⟨hcu, ⟨t1, t2, t3, t4⟩, R2, hv2, ?_, R4, ⟨hw', R5.2⟩⟩)
    exact zR3_go R3 q2.2 (fun d h0 h1 => zSame_ne h1) (fun _ _ _ => rfl) (zDy_to R3.1 q2.2 (zSame_ne (by omega)) (fun _ _ => rfl))
  · exact zDo_mk (c_anew_bad hb) (e_anew_bad hb) (mt_0 zK_len) rfl (zRel_mk hR)
theorem b_liked (hR : zRR tl tp tb cu tk tq tm tw tc tr tg tt ts tv dn dh dw dk de dx dt ps pd ks kq ss sc sn wm wb wr wp wt aw ak av ap an aq al len at_ kep don see fit tx td ki kd pe sk wo sl sa wy be po mh go) {i : Int32} : zDo xs L 74 [.ref 0, .int i] 142 [.ref 104, .int i, .null, .null, .null] (zK tl tp tb cu tk tq tm tw tc tr tg tt ts tv dn dh dw dk de dx dt ps pd ks kq ss sc sn wm wb wr wp wt aw ak av ap an aq al ++ zM len at_ kep don see fit tx td ki kd pe sk wo sl sa wy be po mh go) := by
  obtain ⟨hcu, ⟨t1, t2, t3, t4⟩, R2, hv2, R3, R4, R5⟩ := id hR
  obtain ⟨k1, k2, q1, q2, w1, w2, c1, c2, r1, s1, v1, v2, v3⟩ := id R2
  obtain ⟨⟨⟨n1, n2, n3, n4, n5, n6, n7, n8, n9, n10⟩, n11⟩, p1, p2, p3, p4, p5, p6, p7, p8, p9⟩ := id R3
  simp only [Nat.mul_zero, Nat.zero_add] at n1 n3 n4 n6 n7 n8 n9 n10
  have hq2 : 1 ≤ tq cu ∧ tq cu ≤ 6 := by rw [q1]; exact q2
  have hk2 : tk cu ≤ 5 := by rw [k1]; exact k2.2
  have F5 : ∀ m, m < 6 → dk 0 m < 5 := fun m hm => by have := (n7 m hm).2; omega
  have S5 : ∀ m, m < 6 → sl (6 + m) < 5 := fun m hm => by have := n7 m hm; omega
  have H6 : dh 0 < 64 := Nat.lt_of_lt_of_le n2 (Nat.le_trans (Nat.pow_le_pow_right (by decide) q2.2) (by decide))
  have hl3 : len ≤ 300 := by omega
  have hdo : don ≤ 8 := by omega
  have KW : ∀ i, i < pe 0 → dk 0 (dw 0 i) = sl (6 + sl i) := fun i hi => by rw [(n7 _ (n5 i (by omega))).1, n4 i hi]
  by_cases hb : 0 ≤ i.toInt ∧ i.toInt ≤ 1
  · obtain ⟨a, a1, a2, rfl⟩ := zin_9 (a := 0) (b := 1) (n := i) (by omega) (by omega)
    have ZK : ∀ i, i < pe 0 → zkk sl 0 i = dk 0 (dw 0 i) := fun i hi => by unfold zkk; simp only [Nat.mul_zero, Nat.zero_add]; exact (KW i hi).symm
    have hlb : ∀ i j, i < pe 0 → j < pe 0 → zlb (td 1) (tv cu) (fun i => dk 0 (dw 0 i)) i j = zlb (td 1) wo (zkk sl 0) i j := zlb_c (fun i hi => ⟨(ZK i hi).symm, F5 _ (n5 i (by omega))⟩) v1
    refine zDo_mk (c_liked hcu hq2.2 n5 F5 (by omega) v2 (by omega)) (e_liked zK_len q2.2 (fun i hi => by rw [Nat.mul_zero, Nat.zero_add]; exact n6 i (by omega)) (fun i hi => by rw [ZK i hi]; exact F5 _ (n5 i (by omega))) c2 (fun q hq => v3 q (by omega)) (by omega)) (mt_0 zK_len) ?_ (zRel_mk hR)
    rw [c1, q1]
    unfold zfW
    rw [zcnP_c hlb (by omega), zfsP_c hlb (by omega)]
  · exact zDo_mk (c_liked_bad hb) (e_liked_bad hb) (mt_0 zK_len) rfl (zRel_mk hR)
theorem b_all (hR : zRR tl tp tb cu tk tq tm tw tc tr tg tt ts tv dn dh dw dk de dx dt ps pd ks kq ss sc sn wm wb wr wp wt aw ak av ap an aq al len at_ kep don see fit tx td ki kd pe sk wo sl sa wy be po mh go) {i : Int32} : zDo xs L 75 [.ref 0, .int i, .null] 143 [.ref 104, .int i, .null, .null] (zK tl tp tb cu tk tq tm tw tc tr tg tt ts tv dn dh dw dk de dx dt ps pd ks kq ss sc sn wm wb wr wp wt aw ak av ap an aq al ++ zM len at_ kep don see fit tx td ki kd pe sk wo sl sa wy be po mh go) := by
  obtain ⟨hcu, ⟨t1, t2, t3, t4⟩, R2, hv2, R3, R4, R5⟩ := id hR
  obtain ⟨k1, k2, q1, q2, w1, w2, c1, c2, r1, s1, v1, v2, v3⟩ := id R2
  obtain ⟨⟨⟨n1, n2, n3, n4, n5, n6, n7, n8, n9, n10⟩, n11⟩, p1, p2, p3, p4, p5, p6, p7, p8, p9⟩ := id R3
  simp only [Nat.mul_zero, Nat.zero_add] at n1 n3 n4 n6 n7 n8 n9 n10
  have hq2 : 1 ≤ tq cu ∧ tq cu ≤ 6 := by rw [q1]; exact q2
  have hk2 : tk cu ≤ 5 := by rw [k1]; exact k2.2
  have F5 : ∀ m, m < 6 → dk 0 m < 5 := fun m hm => by have := (n7 m hm).2; omega
  have S5 : ∀ m, m < 6 → sl (6 + m) < 5 := fun m hm => by have := n7 m hm; omega
  have H6 : dh 0 < 64 := Nat.lt_of_lt_of_le n2 (Nat.le_trans (Nat.pow_le_pow_right (by decide) q2.2) (by decide))
  have hl3 : len ≤ 300 := by omega
  have hdo : don ≤ 8 := by omega
  have KW : ∀ i, i < pe 0 → dk 0 (dw 0 i) = sl (6 + sl i) := fun i hi => by rw [(n7 _ (n5 i (by omega))).1, n4 i hi]
  by_cases hb : -1 ≤ i.toInt ∧ i.toInt < pe 0
  · have hz : ∀ j, j < 61 → zcp sl 0 11 61 (671 + j) = sl j := fun j hj => zcp_11 hj
    have hkf : ∀ m, m < 6 → dk 0 m = (fun m => zcp sl 0 11 61 (677 + m)) m ∧ dk 0 m < 5 := fun m hm => ⟨by show _ = zcp sl 0 11 61 (677 + m); rw [show 677 + m = 671 + (6 + m) by omega, hz _ (by omega)]; exact (n7 m hm).1, F5 m hm⟩
    have hWW : ∀ i, i < pe 0 → dw 0 i = (fun i => zcp sl 0 11 61 (671 + i)) i := fun i hi => by show _ = zcp sl 0 11 61 (671 + i); rw [hz _ (by omega)]; exact n4 i hi
    have hW6 : ∀ i, i < 6 → (fun i => zcp sl 0 11 61 (671 + i)) i < 6 := fun i hi => by show zcp sl 0 11 61 (671 + i) < 6; rw [hz _ (by omega)]; exact n6 i hi
    have hk6 : ∀ m, m < 6 → (fun m => zcp sl 0 11 61 (677 + m)) m < 5 := fun m hm => by rw [← (hkf m hm).1]; exact F5 m hm
    obtain ⟨z1, z2⟩ := zac_c (lc := td 1) q2.2 hkf v1 (r := 54) hWW n5
    have hT := zacT_54 (lc := td 1) q2.2 (fun q hq => v3 q (by omega)) hk6 hW6
    have hWl := zacW_lt (lc := td 1) (wo := wo) (kf := fun m => zcp sl 0 11 61 (677 + m)) q2.2 (r := 54) hW6
    have ee := fun C hC => e_allChange (xs := xs) (L := L) (len := len) (at_ := at_) (kep := kep) (don := don) (see := see) (fit := fit) (tx := tx) (td := td) (ki := ki) (kd := kd) (pe := pe) (sk := sk) (wo := wo) (sl := sl) (sa := sa) (wy := wy) (be := be) (po := po) (mh := mh) (go := go) (C := C) hC q2 c2 (fun q hq => v3 q (by omega)) n6 S5 rfl rfl hT (i := i) hb hWl
    have RR : ∀ s : Nat → Nat, (∀ j, j < 671 → s j = sl j) → zR3 (pe 0) (ki 0) dn dh dw dk de dx dt ps pd ks kq s don kep := fun s hs => zR3_go R3 q2.2 (fun d _ _ => ⟨rfl, rfl, rfl, rfl, rfl, rfl, rfl⟩) (fun j _ h2 => hs j h2) (zDy_to R3.1 q2.2 ⟨rfl, rfl, rfl, rfl, rfl, rfl, rfl⟩ (fun j hj => hs _ (by omega)))
    rcases zm1_or.mp hb with rfl | hi
    · obtain ⟨s, hs, e2⟩ := ee (zK tl tp tb cu tk tq tm tw tc tr tg tt ts tv dn dh dw dk de dx dt ps pd ks kq ss sc sn wm wb wr wp wt (zacW (tc cu) (tv cu) (dk 0) (tq cu) 54 (dw 0)) (dk 0) (tv cu) ap an (tq cu) (tc cu)) zK_len
      rw [if_pos (by decide)] at e2
      exact zDo_mk (c_all hcu hq2.2 n5 F5 (by omega) v2) e2 (mt_0 zK_len) (by rw [c1, q1, z1]) (zRel_mk ⟨hcu, ⟨t1, t2, t3, t4⟩, R2, hv2, RR s hs, R4, R5⟩)
    · obtain ⟨a, ha, rfl⟩ := zin_of hi (by omega)
      obtain ⟨s, hs, e2⟩ := ee (zK tl tp tb cu tk tq tm tw tc tr tg tt ts tv dn dh dw dk de dx dt ps pd ks kq ss sc sn wm wb wr wp wt (zacW (tc cu) (tv cu) (dk 0) (tq cu) 54 (dw 0)) (dk 0) (tv cu) ap an (tq cu) (tc cu)) zK_len
      rw [if_neg (by rw [zn_lt0 (by omega)]; exact id), nI_clamp (by omega)] at e2
      refine zDo_mk (c_all_i hcu hq2.2 n5 F5 (by omega) v2 (by omega)) e2 (mt_0 zK_len) ?_ (zRel_mk ⟨hcu, ⟨t1, t2, t3, t4⟩, R2, hv2, RR s hs, R4, R5⟩)
      rw [c1, q1, ← z2 a ha, (hkf _ (zacW_lt q2.2 n5 a (by omega))).1]
  · have h1 : ¬ i = -1 := fun q => hb (zm1_or.mpr (Or.inl q))
    have h2 : ¬ zin i (tq cu) := by rw [q1]; exact fun q => hb (zm1_or.mpr (Or.inr q))
    exact zDo_mk (c_all_bad hcu hq2.2 h1 h2) (e_allChange_bad zK_len q2 hb) (mt_0 zK_len) rfl (zRel_mk hR)
theorem b_rounds (hR : zRR tl tp tb cu tk tq tm tw tc tr tg tt ts tv dn dh dw dk de dx dt ps pd ks kq ss sc sn wm wb wr wp wt aw ak av ap an aq al len at_ kep don see fit tx td ki kd pe sk wo sl sa wy be po mh go) {i : Int32} : zDo xs L 76 [.ref 0, .int i] 145 [.ref 104, .int i, .null, .null, .null, .null, .null] (zK tl tp tb cu tk tq tm tw tc tr tg tt ts tv dn dh dw dk de dx dt ps pd ks kq ss sc sn wm wb wr wp wt aw ak av ap an aq al ++ zM len at_ kep don see fit tx td ki kd pe sk wo sl sa wy be po mh go) := by
  obtain ⟨hcu, ⟨t1, t2, t3, t4⟩, R2, hv2, R3, R4, R5⟩ := id hR
  obtain ⟨k1, k2, q1, q2, w1, w2, c1, c2, r1, s1, v1, v2, v3⟩ := id R2
  obtain ⟨⟨⟨n1, n2, n3, n4, n5, n6, n7, n8, n9, n10⟩, n11⟩, p1, p2, p3, p4, p5, p6, p7, p8, p9⟩ := id R3
  simp only [Nat.mul_zero, Nat.zero_add] at n1 n3 n4 n6 n7 n8 n9 n10
  have hq2 : 1 ≤ tq cu ∧ tq cu ≤ 6 := by rw [q1]; exact q2
  have hk2 : tk cu ≤ 5 := by rw [k1]; exact k2.2
  have F5 : ∀ m, m < 6 → dk 0 m < 5 := fun m hm => by have := (n7 m hm).2; omega
  have S5 : ∀ m, m < 6 → sl (6 + m) < 5 := fun m hm => by have := n7 m hm; omega
  have H6 : dh 0 < 64 := Nat.lt_of_lt_of_le n2 (Nat.le_trans (Nat.pow_le_pow_right (by decide) q2.2) (by decide))
  have hl3 : len ≤ 300 := by omega
  have hdo : don ≤ 8 := by omega
  have KW : ∀ i, i < pe 0 → dk 0 (dw 0 i) = sl (6 + sl i) := fun i hi => by rw [(n7 _ (n5 i (by omega))).1, n4 i hi]
  by_cases hb : zin i (pe 0)
  · obtain ⟨a, ha, rfl⟩ := zin_of hb (by omega)
    have ZK : ∀ i, i < pe 0 → zkk sl 0 i = dk 0 (dw 0 i) := fun i hi => by unfold zkk; simp only [Nat.mul_zero, Nat.zero_add]; exact (KW i hi).symm
    obtain ⟨f', ec⟩ := c_rounds (xs := xs) (L := L) (tl := tl) (tp := tp) (tb := tb) (cu := cu) (tk := tk) (tq := tq) (tm := tm) (tw := tw) (tc := tc) (tr := tr) (tg := tg) (tt := tt) (ts := ts) (tv := tv) (dn := dn) (dh := dh) (dw := dw) (dk := dk) (de := de) (dx := dx) (dt := dt) (ps := ps) (pd := pd) (ks := ks) (kq := kq) (ss := ss) (sc := sc) (sn := sn) (wm := wm) (wb := wb) (wr := wr) (wp := wp) (wt := wt) (aw := aw) (ak := ak) (av := av) (ap := ap) (an := an) (aq := aq) (al := al) (M := zM len at_ kep don see fit tx td ki kd pe sk wo sl sa wy be po mh go) hcu hq2 n5 F5 (by omega) v2 (i := a) (by omega)
    have key : ∀ i, i < 6 → zrdH (tc cu) (tv cu) (fun i => dk 0 (dw 0 i)) (dw 0) (tq cu) (tq cu) (2 ^ tq cu - 1) an i = zrdH (td 1) wo (zkk sl 0) sl (pe 0) (pe 0) (2 ^ pe 0 - 1) mh i := by
      rw [c1, q1]
      exact zrdH_c (fun i hi => ⟨(ZK i hi).symm, F5 _ (n5 i (by omega))⟩) v1 n4 R5.2
    exact zDo_mk ec (e_rounds zK_len q2 (fun i hi => by rw [Nat.mul_zero, Nat.zero_add]; exact n6 i (by omega)) (fun i hi => by rw [ZK i hi]; exact F5 _ (n5 i (by omega))) c2 (fun q hq => v3 q (by omega)) ha (zrdT_n q2.2)) (mt_0 zK_len) (by rw [key a (by omega)]) (zRel_mk ⟨hcu, ⟨t1, t2, t3, t4⟩, R2, hv2, R3, R4, ⟨R5.1, key⟩⟩)
  · exact zDo_mk (c_rounds_bad hcu hq2.2 (by rw [q1]; exact hb)) (e_rounds_bad zK_len q2 hb) (mt_0 zK_len) rfl (zRel_mk hR)
/-- a way is as seen for the one where it is for the other -/
theorem b_fit (hR : zRR tl tp tb cu tk tq tm tw tc tr tg tt ts tv dn dh dw dk de dx dt ps pd ks kq ss sc sn wm wb wr wp wt aw ak av ap an aq al len at_ kep don see fit tx td ki kd pe sk wo sl sa wy be po mh go) : ∀ w w' : Nat → Nat, (∀ j, j < pe 0 → w j = w' j) → (∀ j, j < 6 → w j < 6) → zas (dk 0) (tr cu) (ts cu) sc sn (pe 0) w = zfit (fun k => kd (3 * k)) (fun m => sl (6 + m)) sk sa see w' := by
  obtain ⟨hcu, ⟨t1, t2, t3, t4⟩, R2, hv2, R3, R4, R5⟩ := id hR
  obtain ⟨k1, k2, q1, q2, w1, w2, c1, c2, r1, s1, v1, v2, v3⟩ := id R2
  obtain ⟨⟨⟨n1, n2, n3, n4, n5, n6, n7, n8, n9, n10⟩, n11⟩, p1, p2, p3, p4, p5, p6, p7, p8, p9⟩ := id R3
  simp only [Nat.mul_zero, Nat.zero_add] at n1 n3 n4 n6 n7 n8 n9 n10
  have hq2 : 1 ≤ tq cu ∧ tq cu ≤ 6 := by rw [q1]; exact q2
  have hk2 : tk cu ≤ 5 := by rw [k1]; exact k2.2
  have F5 : ∀ m, m < 6 → dk 0 m < 5 := fun m hm => by have := (n7 m hm).2; omega
  have S5 : ∀ m, m < 6 → sl (6 + m) < 5 := fun m hm => by have := n7 m hm; omega
  have H6 : dh 0 < 64 := Nat.lt_of_lt_of_le n2 (Nat.le_trans (Nat.pow_le_pow_right (by decide) q2.2) (by decide))
  have hl3 : len ≤ 300 := by omega
  have hdo : don ≤ 8 := by omega
  have KW : ∀ i, i < pe 0 → dk 0 (dw 0 i) = sl (6 + sl i) := fun i hi => by rw [(n7 _ (n5 i (by omega))).1, n4 i hi]
  obtain ⟨y1, y2, y3, y4, y5⟩ := id R4
  intro w w' h hb
  have ex : ∀ i, i < pe 0 → zax (dk 0) (tr cu) (ts cu) w i = kd (3 * sl (6 + w' i)) &&& sk i := by
    intro i hi
    obtain ⟨z1, z2⟩ := n7 _ (hb i (by omega))
    show tr cu (dk 0 (w i)) &&& ts cu i = _
    rw [(r1 _ z2).1, (s1 i hi).1, z1, h i hi]
  have hx : ∀ i, i < pe 0 → kd (3 * sl (6 + w' i)) &&& sk i < 64 := fun i hi => Nat.lt_of_le_of_lt Nat.and_le_right (s1 i hi).2
  rw [Bool.eq_iff_iff]
  unfold zas zfit
  rw [zall_iff, zall_iff]
  constructor
  · intro g k hk
    obtain ⟨a1, a2, a3⟩ := y4 k hk
    have g1 := of_decide_eq_true (g _ a1)
    rw [ex _ a1] at g1
    exact decide_eq_true ((y5 _ (by omega) _ (hx _ a1)).mp g1 k hk rfl)
  · intro g i hi
    refine decide_eq_true ?_
    rw [ex i hi, y5 i (by omega) _ (hx i hi)]
    intro k hk he
    have g1 := of_decide_eq_true (g k hk)
    rw [he] at g1
    exact g1
theorem b_fits (hR : zRR tl tp tb cu tk tq tm tw tc tr tg tt ts tv dn dh dw dk de dx dt ps pd ks kq ss sc sn wm wb wr wp wt aw ak av ap an aq al len at_ kep don see fit tx td ki kd pe sk wo sl sa wy be po mh go) : zDo xs L 79 [.ref 0] 149 [.ref 104] (zK tl tp tb cu tk tq tm tw tc tr tg tt ts tv dn dh dw dk de dx dt ps pd ks kq ss sc sn wm wb wr wp wt aw ak av ap an aq al ++ zM len at_ kep don see fit tx td ki kd pe sk wo sl sa wy be po mh go) := by
  have FIT := b_fit hR
  obtain ⟨hcu, ⟨t1, t2, t3, t4⟩, R2, hv2, R3, R4, R5⟩ := id hR
  obtain ⟨k1, k2, q1, q2, w1, w2, c1, c2, r1, s1, v1, v2, v3⟩ := id R2
  obtain ⟨⟨⟨n1, n2, n3, n4, n5, n6, n7, n8, n9, n10⟩, n11⟩, p1, p2, p3, p4, p5, p6, p7, p8, p9⟩ := id R3
  simp only [Nat.mul_zero, Nat.zero_add] at n1 n3 n4 n6 n7 n8 n9 n10
  have hq2 : 1 ≤ tq cu ∧ tq cu ≤ 6 := by rw [q1]; exact q2
  have hk2 : tk cu ≤ 5 := by rw [k1]; exact k2.2
  have F5 : ∀ m, m < 6 → dk 0 m < 5 := fun m hm => by have := (n7 m hm).2; omega
  have S5 : ∀ m, m < 6 → sl (6 + m) < 5 := fun m hm => by have := n7 m hm; omega
  have H6 : dh 0 < 64 := Nat.lt_of_lt_of_le n2 (Nat.le_trans (Nat.pow_le_pow_right (by decide) q2.2) (by decide))
  have hl3 : len ≤ 300 := by omega
  have hdo : don ≤ 8 := by omega
  have KW : ∀ i, i < pe 0 → dk 0 (dw 0 i) = sl (6 + sl i) := fun i hi => by rw [(n7 _ (n5 i (by omega))).1, n4 i hi]
  obtain ⟨y1, y2, y3, y4, y5⟩ := id R4
  obtain ⟨f, e2⟩ := e_fits (xs := xs) (L := L) (len := len) (at_ := at_) (kep := kep) (don := don) (see := see) (fit := fit) (tx := tx) (td := td) (ki := ki) (kd := kd) (pe := pe) (sk := sk) (wo := wo) (sl := sl) (sa := sa) (wy := wy) (be := be) (po := po) (mh := mh) (go := go) (C := zK tl tp tb cu tk tq tm tw tc tr tg tt ts tv dn dh dw dk de dx dt ps pd ks kq ss sc sn (zed (tq cu) (zfac (tq cu)) (zupto (fun j => j) (tq cu) wm)) wb (zwz (dk 0) (tr cu) (ts cu) (tq cu) wr) (tq cu) (zfac (tq cu)) aw ak av ap an aq al) zK_len q2 y2 S5 (fun k hk => by have := y4 k hk; exact ⟨by omega, this.2⟩)
  refine zDo_mk (c_fits hcu hq2 F5 (fun i hi => by rw [(s1 i (by omega)).1]; exact (s1 i (by omega)).2) (fun i hi => (y3 i hi).1) (fun i hi => (y3 i hi).2) R5.1) e2 (mt_0 zK_len) ?_ (zRel_mk ⟨hcu, ⟨t1, t2, t3, t4⟩, R2, hv2, R3, R4, ⟨zed_lt hq2 (zupto_all (fun j hj => by omega) R5.1), R5.2⟩⟩)
  rw [q1, zcv_c (T' := fun w => zb1 (zfit (fun k => kd (3 * k)) (fun m => sl (6 + m)) sk sa see w)) q2 R5.1 (fun w w' h hb => congrArg zb1 (FIT w w' h hb))]
theorem b_sure (hR : zRR tl tp tb cu tk tq tm tw tc tr tg tt ts tv dn dh dw dk de dx dt ps pd ks kq ss sc sn wm wb wr wp wt aw ak av ap an aq al len at_ kep don see fit tx td ki kd pe sk wo sl sa wy be po mh go) {i : Int32} : zDo xs L 80 [.ref 0, .int i] 150 [.ref 104, .int i] (zK tl tp tb cu tk tq tm tw tc tr tg tt ts tv dn dh dw dk de dx dt ps pd ks kq ss sc sn wm wb wr wp wt aw ak av ap an aq al ++ zM len at_ kep don see fit tx td ki kd pe sk wo sl sa wy be po mh go) := by
  have FIT := b_fit hR
  obtain ⟨hcu, ⟨t1, t2, t3, t4⟩, R2, hv2, R3, R4, R5⟩ := id hR
  obtain ⟨k1, k2, q1, q2, w1, w2, c1, c2, r1, s1, v1, v2, v3⟩ := id R2
  obtain ⟨⟨⟨n1, n2, n3, n4, n5, n6, n7, n8, n9, n10⟩, n11⟩, p1, p2, p3, p4, p5, p6, p7, p8, p9⟩ := id R3
  simp only [Nat.mul_zero, Nat.zero_add] at n1 n3 n4 n6 n7 n8 n9 n10
  have hq2 : 1 ≤ tq cu ∧ tq cu ≤ 6 := by rw [q1]; exact q2
  have hk2 : tk cu ≤ 5 := by rw [k1]; exact k2.2
  have F5 : ∀ m, m < 6 → dk 0 m < 5 := fun m hm => by have := (n7 m hm).2; omega
  have S5 : ∀ m, m < 6 → sl (6 + m) < 5 := fun m hm => by have := n7 m hm; omega
  have H6 : dh 0 < 64 := Nat.lt_of_lt_of_le n2 (Nat.le_trans (Nat.pow_le_pow_right (by decide) q2.2) (by decide))
  have hl3 : len ≤ 300 := by omega
  have hdo : don ≤ 8 := by omega
  have KW : ∀ i, i < pe 0 → dk 0 (dw 0 i) = sl (6 + sl i) := fun i hi => by rw [(n7 _ (n5 i (by omega))).1, n4 i hi]
  obtain ⟨y1, y2, y3, y4, y5⟩ := id R4
  by_cases hb : zin i (pe 0)
  · obtain ⟨a, ha, rfl⟩ := zin_of hb (by omega)
    obtain ⟨w', hw', ec⟩ := c_sure (xs := xs) (L := L) (tl := tl) (tp := tp) (tb := tb) (cu := cu) (tk := tk) (tq := tq) (tm := tm) (tw := tw) (tc := tc) (tr := tr) (tg := tg) (tt := tt) (ts := ts) (tv := tv) (dn := dn) (dh := dh) (dw := dw) (dk := dk) (de := de) (dx := dx) (dt := dt) (ps := ps) (pd := pd) (ks := ks) (kq := kq) (ss := ss) (sc := sc) (sn := sn) (wm := wm) (wb := wb) (wr := wr) (wp := wp) (wt := wt) (aw := aw) (ak := ak) (av := av) (ap := ap) (an := an) (aq := aq) (al := al) (M := zM len at_ kep don see fit tx td ki kd pe sk wo sl sa wy be po mh go) hcu hq2 F5 (fun i hi => by rw [(s1 i (by omega)).1]; exact (s1 i (by omega)).2) (fun i hi => (y3 i hi).1) (fun i hi => (y3 i hi).2) R5.1 (i := a) (by omega)
    obtain ⟨f, e2⟩ := e_sure (xs := xs) (L := L) (len := len) (at_ := at_) (kep := kep) (don := don) (see := see) (fit := fit) (tx := tx) (td := td) (ki := ki) (kd := kd) (pe := pe) (sk := sk) (wo := wo) (sl := sl) (sa := sa) (wy := wy) (be := be) (po := po) (mh := mh) (go := go) (C := zK tl tp tb cu tk tq tm tw tc tr tg tt ts tv dn dh dw dk de dx dt ps pd ks kq ss sc sn (w') wb (zwz (dk 0) (tr cu) (ts cu) (tq cu) wr) (tq cu) (zfac (tq cu)) aw ak av ap an aq al) zK_len q2 y2 S5 (fun k hk => by have := y4 k hk; exact ⟨by omega, this.2⟩) ha
    refine zDo_mk ec e2 (mt_0 zK_len) ?_ (zRel_mk ⟨hcu, ⟨t1, t2, t3, t4⟩, R2, hv2, R3, R4, ⟨hw', R5.2⟩⟩)
    rw [q1, zft_c q2 R5.1 (fun w w' h hb => ⟨FIT w w' h hb, by show dk 0 (w a) = sl (6 + w' a); rw [(n7 _ (hb a (by omega))).1, h a ha]⟩)]
    by_cases g : zcw (fun w => zb1 (zfit (fun k => kd (3 * k)) (fun m => sl (6 + m)) sk sa see w)) (pe 0) (zfac (pe 0) - 1) (fun j => j) = 0
    · rw [if_pos g, zfs_0 g]; rfl
    · rw [if_neg g]
  · exact zDo_mk (c_sure_bad hcu hq2.2 (by rw [q1]; exact hb)) (e_sure_bad zK_len q2 hb) (mt_0 zK_len) rfl (zRel_mk hR)
theorem b_fair (hR : zRR tl tp tb cu tk tq tm tw tc tr tg tt ts tv dn dh dw dk de dx dt ps pd ks kq ss sc sn wm wb wr wp wt aw ak av ap an aq al len at_ kep don see fit tx td ki kd pe sk wo sl sa wy be po mh go) {i : Int32} : zDo xs L 81 [.ref 0, .int i, .null] 151 [.ref 104, .int i, .null, .null, .null, .null] (zK tl tp tb cu tk tq tm tw tc tr tg tt ts tv dn dh dw dk de dx dt ps pd ks kq ss sc sn wm wb wr wp wt aw ak av ap an aq al ++ zM len at_ kep don see fit tx td ki kd pe sk wo sl sa wy be po mh go) := by
  obtain ⟨hcu, ⟨t1, t2, t3, t4⟩, R2, hv2, R3, R4, R5⟩ := id hR
  obtain ⟨k1, k2, q1, q2, w1, w2, c1, c2, r1, s1, v1, v2, v3⟩ := id R2
  obtain ⟨⟨⟨n1, n2, n3, n4, n5, n6, n7, n8, n9, n10⟩, n11⟩, p1, p2, p3, p4, p5, p6, p7, p8, p9⟩ := id R3
  simp only [Nat.mul_zero, Nat.zero_add] at n1 n3 n4 n6 n7 n8 n9 n10
  have hq2 : 1 ≤ tq cu ∧ tq cu ≤ 6 := by rw [q1]; exact q2
  have hk2 : tk cu ≤ 5 := by rw [k1]; exact k2.2
  have F5 : ∀ m, m < 6 → dk 0 m < 5 := fun m hm => by have := (n7 m hm).2; omega
  have S5 : ∀ m, m < 6 → sl (6 + m) < 5 := fun m hm => by have := n7 m hm; omega
  have H6 : dh 0 < 64 := Nat.lt_of_lt_of_le n2 (Nat.le_trans (Nat.pow_le_pow_right (by decide) q2.2) (by decide))
  have hl3 : len ≤ 300 := by omega
  have hdo : don ≤ 8 := by omega
  have KW : ∀ i, i < pe 0 → dk 0 (dw 0 i) = sl (6 + sl i) := fun i hi => by rw [(n7 _ (n5 i (by omega))).1, n4 i hi]
  by_cases hb : -1 ≤ i.toInt ∧ i.toInt < pe 0
  · have hT1 : ∀ q, q < 30 → dt 0 q < 100000 := fun q hq => by have := n10 q hq; omega
    have hT2 : ∀ q, q < 30 → sl (30 + q) < 100000 := fun q hq => by have := n10 q hq; omega
    have hT : ∀ w w' : Nat → Nat, (∀ j, j < pe 0 → w j = w' j) → (∀ j, j < 6 → w j < 6) → zhad (dt 0) (dk 0) (pe 0) w = zhad (fun q => sl (30 + q)) (fun m => sl (6 + m)) (pe 0) w' := fun w w' h hb => zhad_c q2.2 (fun m hm => ⟨(n7 m hm).1, F5 m hm⟩) (fun q hq => (n10 q hq).1) h hb
    have hf := zfac_pos (pe 0)
    have hu := zupto_all (p := fun j => j) (f := wm) (k := pe 0) (c := 6) (fun j hj => by omega) R5.1
    have RR : zR5 (zed (tq cu) (zfac (tq cu)) (zupto (fun j => j) (tq cu) wm)) an mh := ⟨zed_lt hq2 (zupto_all (fun j hj => by omega) R5.1), R5.2⟩
    rcases zm1_or.mp hb with rfl | hi
    · have e2 := e_fairest (xs := xs) (L := L) (len := len) (at_ := at_) (kep := kep) (don := don) (see := see) (fit := fit) (tx := tx) (td := td) (ki := ki) (kd := kd) (pe := pe) (sk := sk) (wo := wo) (sl := sl) (sa := sa) (wy := wy) (be := be) (po := po) (mh := mh) (go := go) (C := zK tl tp tb cu tk tq tm tw tc tr tg tt ts tv dn dh dw dk de dx dt ps pd ks kq ss sc sn (zed (tq cu) (zfac (tq cu)) (zupto (fun j => j) (tq cu) wm)) (zgB (zhad (dt 0) (dk 0) (tq cu)) (tq cu) (zfac (tq cu)) (zupto (fun j => j) (tq cu) wm) 0 wb) (zwz (dk 0) (tr cu) (ts cu) (tq cu) wr) (tq cu) (zfac (tq cu)) aw ak av ap an aq al) zK_len q2 S5 hT2 (i := -1) hb
      rw [if_pos (by decide)] at e2
      refine zDo_mk (c_fair hcu hq2 F5 hT1 R5.1) e2 (mt_0 zK_len) ?_ (zRel_mk ⟨hcu, ⟨t1, t2, t3, t4⟩, R2, hv2, R3, R4, RR⟩)
      have h1 := zfaL_1 (T := zhad (fun q => sl (30 + q)) (fun m => sl (6 + m)) (pe 0)) (n := pe 0) (r := zfac (pe 0) - 1) (w := fun j => j) (l := 0)
      rw [zls_n (by omega), q1]
      congr 2
      rw [show zgL (zhad (dt 0) (dk 0) (pe 0)) (pe 0) (zfac (pe 0)) (zupto (fun j => j) (pe 0) wm) 0 = zgL (zhad (dt 0) (dk 0) (pe 0)) (pe 0) (zfac (pe 0) - 1 + 1) (zupto (fun j => j) (pe 0) wm) 0 by rw [Nat.sub_add_cancel hf]]
      exact zfaL_c q2 hT (fun j hj => zupto_lt hj) hu
    · obtain ⟨a, ha, rfl⟩ := zin_of hi (by omega)
      have e2 := e_fairest (xs := xs) (L := L) (len := len) (at_ := at_) (kep := kep) (don := don) (see := see) (fit := fit) (tx := tx) (td := td) (ki := ki) (kd := kd) (pe := pe) (sk := sk) (wo := wo) (sl := sl) (sa := sa) (wy := wy) (be := be) (po := po) (mh := mh) (go := go) (C := zK tl tp tb cu tk tq tm tw tc tr tg tt ts tv dn dh dw dk de dx dt ps pd ks kq ss sc sn (zed (tq cu) (zfac (tq cu)) (zupto (fun j => j) (tq cu) wm)) (zgB (zhad (dt 0) (dk 0) (tq cu)) (tq cu) (zfac (tq cu)) (zupto (fun j => j) (tq cu) wm) 0 wb) (zwz (dk 0) (tr cu) (ts cu) (tq cu) wr) (tq cu) (zfac (tq cu)) aw ak av ap an aq al) zK_len q2 S5 hT2 (i := nI a) hb
      rw [if_neg (by rw [zn_lt0 (by omega)]; exact id), nI_clamp (by omega)] at e2
      refine zDo_mk (c_fair_i hcu hq2 F5 hT1 R5.1 (by omega)) e2 (mt_0 zK_len) ?_ (zRel_mk ⟨hcu, ⟨t1, t2, t3, t4⟩, R2, hv2, R3, R4, RR⟩)
      rw [q1]
      congr 1
      rw [show zgB (zhad (dt 0) (dk 0) (pe 0)) (pe 0) (zfac (pe 0)) (zupto (fun j => j) (pe 0) wm) 0 wb = zgB (zhad (dt 0) (dk 0) (pe 0)) (pe 0) (zfac (pe 0) - 1 + 1) (zupto (fun j => j) (pe 0) wm) 0 wb by rw [Nat.sub_add_cancel hf]]
      exact zfaB_c q2 hT (fun j hj => zupto_lt hj) hu (fun q => absurd rfl q) a ha
  · have h1 : ¬ i = -1 := fun q => hb (zm1_or.mpr (Or.inl q))
    have h2 : ¬ zin i (tq cu) := by rw [q1]; exact fun q => hb (zm1_or.mpr (Or.inr q))
    exact zDo_mk (c_fair_bad hcu hq2.2 h1 h2) (e_fairest_bad zK_len q2 hb) (mt_0 zK_len) rfl (zRel_mk hR)
theorem b_false (hR : zRR tl tp tb cu tk tq tm tw tc tr tg tt ts tv dn dh dw dk de dx dt ps pd ks kq ss sc sn wm wb wr wp wt aw ak av ap an aq al len at_ kep don see fit tx td ki kd pe sk wo sl sa wy be po mh go) : zDo xs L 83 [.ref 0, .null, .null, .null] 153 [.ref 104, .null, .null, .null] (zK tl tp tb cu tk tq tm tw tc tr tg tt ts tv dn dh dw dk de dx dt ps pd ks kq ss sc sn wm wb wr wp wt aw ak av ap an aq al ++ zM len at_ kep don see fit tx td ki kd pe sk wo sl sa wy be po mh go) := by
  obtain ⟨hcu, ⟨t1, t2, t3, t4⟩, R2, hv2, R3, R4, R5⟩ := id hR
  obtain ⟨k1, k2, q1, q2, w1, w2, c1, c2, r1, s1, v1, v2, v3⟩ := id R2
  obtain ⟨⟨⟨n1, n2, n3, n4, n5, n6, n7, n8, n9, n10⟩, n11⟩, p1, p2, p3, p4, p5, p6, p7, p8, p9⟩ := id R3
  simp only [Nat.mul_zero, Nat.zero_add] at n1 n3 n4 n6 n7 n8 n9 n10
  have hq2 : 1 ≤ tq cu ∧ tq cu ≤ 6 := by rw [q1]; exact q2
  have hk2 : tk cu ≤ 5 := by rw [k1]; exact k2.2
  have F5 : ∀ m, m < 6 → dk 0 m < 5 := fun m hm => by have := (n7 m hm).2; omega
  have S5 : ∀ m, m < 6 → sl (6 + m) < 5 := fun m hm => by have := n7 m hm; omega
  have H6 : dh 0 < 64 := Nat.lt_of_lt_of_le n2 (Nat.le_trans (Nat.pow_le_pow_right (by decide) q2.2) (by decide))
  have hl3 : len ≤ 300 := by omega
  have hdo : don ≤ 8 := by omega
  have KW : ∀ i, i < pe 0 → dk 0 (dw 0 i) = sl (6 + sl i) := fun i hi => by rw [(n7 _ (n5 i (by omega))).1, n4 i hi]
  have ht : ∀ k, k < ki 0 → kd (3 * k + 2) < 100 := fun k hk => by have := (r1 k hk).2.2.2; omega
  refine zDo_mk (c_false hcu hq2.2 hk2 F5 (fun k hk => by rw [(r1 k (by omega)).2.2.1]; exact ht k (by omega))) (e_falseOne zK_len q2.2 k2.2 S5 ht) (mt_0 zK_len) ?_ (zRel_mk hR)
  rw [q1, k1]
  congr 1
  unfold zfone
  refine zfst_c (fun k _ hk => ?_)
  rw [(r1 k (by omega)).2.2.1, zcnt_c (g := fun m => decide (sl (6 + m) = k)) (fun m _ hm => by rw [(n7 m (by omega)).1])]
theorem b_year (hR : zRR tl tp tb cu tk tq tm tw tc tr tg tt ts tv dn dh dw dk de dx dt ps pd ks kq ss sc sn wm wb wr wp wt aw ak av ap an aq al len at_ kep don see fit tx td ki kd pe sk wo sl sa wy be po mh go) {z n i y : Int32} : zDo xs L 84 [.ref 0, .int z, .int n, .int i, .int y, .null] 154 [.ref 104, .int z, .int n, .int i, .int y, .null] (zK tl tp tb cu tk tq tm tw tc tr tg tt ts tv dn dh dw dk de dx dt ps pd ks kq ss sc sn wm wb wr wp wt aw ak av ap an aq al ++ zM len at_ kep don see fit tx td ki kd pe sk wo sl sa wy be po mh go) := by
  obtain ⟨hcu, ⟨t1, t2, t3, t4⟩, R2, hv2, R3, R4, R5⟩ := id hR
  obtain ⟨k1, k2, q1, q2, w1, w2, c1, c2, r1, s1, v1, v2, v3⟩ := id R2
  obtain ⟨⟨⟨n1, n2, n3, n4, n5, n6, n7, n8, n9, n10⟩, n11⟩, p1, p2, p3, p4, p5, p6, p7, p8, p9⟩ := id R3
  simp only [Nat.mul_zero, Nat.zero_add] at n1 n3 n4 n6 n7 n8 n9 n10
  have hq2 : 1 ≤ tq cu ∧ tq cu ≤ 6 := by rw [q1]; exact q2
  have hk2 : tk cu ≤ 5 := by rw [k1]; exact k2.2
  have F5 : ∀ m, m < 6 → dk 0 m < 5 := fun m hm => by have := (n7 m hm).2; omega
  have S5 : ∀ m, m < 6 → sl (6 + m) < 5 := fun m hm => by have := n7 m hm; omega
  have H6 : dh 0 < 64 := Nat.lt_of_lt_of_le n2 (Nat.le_trans (Nat.pow_le_pow_right (by decide) q2.2) (by decide))
  have hl3 : len ≤ 300 := by omega
  have hdo : don ≤ 8 := by omega
  have KW : ∀ i, i < pe 0 → dk 0 (dw 0 i) = sl (6 + sl i) := fun i hi => by rw [(n7 _ (n5 i (by omega))).1, n4 i hi]
  by_cases hb : (0 ≤ z.toInt ∧ z.toInt ≤ 9999) ∧ (1 ≤ n.toInt ∧ n.toInt ≤ 60) ∧ zin i (pe 0) ∧ (-1 ≤ y.toInt ∧ y.toInt < ki 0)
  · obtain ⟨hz, hn, hi, hy⟩ := hb
    obtain ⟨a, a1, a2, rfl⟩ := zin_9 (a := 0) (b := 9999) (n := z) (by omega) (by omega)
    obtain ⟨b, b1, b2, rfl⟩ := zin_9 (a := 1) (b := 60) (n := n) (by omega) (by omega)
    obtain ⟨c, hc, rfl⟩ := zin_of hi (by omega)
    have ec := c_year (xs := xs) (L := L) (tl := tl) (tp := tp) (tb := tb) (cu := cu) (tk := tk) (tq := tq) (tm := tm) (tw := tw) (tc := tc) (tr := tr) (tg := tg) (tt := tt) (ts := ts) (tv := tv) (dn := dn) (dh := dh) (dw := dw) (dk := dk) (de := de) (dx := dx) (dt := dt) (ps := ps) (pd := pd) (ks := ks) (kq := kq) (ss := ss) (sc := sc) (sn := sn) (wm := wm) (wb := wb) (wr := wr) (wp := wp) (wt := wt) (aw := aw) (ak := ak) (av := av) (ap := ap) (an := an) (aq := aq) (al := al) (M := zM len at_ kep don see fit tx td ki kd pe sk wo sl sa wy be po mh go) hcu hq2 hk2 (z := a) (n := b) (i := c) (by omega) ⟨b1, b2⟩ (by omega) (by omega) n5 F5 (y := y) (by rw [k1]; exact zm1_or.mp hy)
    have e2 := fun C hC => e_year (xs := xs) (L := L) (len := len) (at_ := at_) (kep := kep) (don := don) (see := see) (fit := fit) (tx := tx) (td := td) (ki := ki) (kd := kd) (pe := pe) (sk := sk) (wo := wo) (sl := sl) (sa := sa) (wy := wy) (be := be) (po := po) (mh := mh) (go := go) (C := C) hC q2 k2 (z := a) (n := b) (i := c) (by omega) ⟨b1, b2⟩ hc (by omega) n6 S5 (k := y) hy
    have h0 : zDR (pe 0) (ki 0) (dn 0) (dh 0) (dw 0) (dk 0) (de 0) (dx 0) (dt 0) (fun j => zcp sl 0 11 61 (61 * 11 + j)) := zDR_c R3.1.1 (fun j hj => by show zcp sl 0 11 61 (61 * 11 + j) = sl (61 * 0 + j); rw [zcp_11 hj, Nat.mul_zero, Nat.zero_add]) q2.2
    obtain ⟨-, -, -, -, -, -, -, x8, -, x10⟩ := zyr_rel (z := a) (wg := tg cu) (kd := kd) h0 q2 k2.2 (fun k hk => (r1 k hk).2.1) b
    refine zDo_mk ec (e2 _ zK_len) (mt_0 zK_len) ?_ (zRel_mk ⟨hcu, ⟨t1, t2, t3, t4⟩, R2, hv2, ?_, R4, R5⟩)
    · rw [q1]
      congr 1
      by_cases g : y < 0
      · rw [if_pos g, if_pos g, x8 c (by omega)]
        show zyr _ _ _ _ _ (61 * 11 + (18 + c)) = _
        congr 1; omega
      · rw [if_neg g, if_neg g]
        have hy2 : zin y (ki 0) := ⟨by have := Int32.not_lt.mp g; simpa using Int32.le_iff_toInt_le.mp this, hy.2⟩
        obtain ⟨e, he, rfl⟩ := zin_of hy2 (by omega)
        rw [nI_clamp (by omega), (x10 (5 * c + e) (by omega)).1]
        show zyr _ _ _ _ _ (61 * 11 + (30 + (5 * c + e))) = _
        congr 1; omega
    · exact zR3_go R3 q2.2 (fun d h0 h1 => zSame_ne h1) (fun j h1 h2 => by rw [zyr_o q2.2 h2, zcp_out (by omega)]) (zDy_to R3.1 q2.2 (zSame_ne (by omega)) (fun j hj => by rw [zyr_o q2.2 (by omega), zcp_out (by omega)]))
  · refine zDo_mk (c_year_bad hcu hq2.2 hk2 (fun q => hb ?_)) (e_year_bad zK_len q2 k2 hb) (mt_0 zK_len) rfl (zRel_mk hR)
    rw [q1, k1] at q
    exact ⟨⟨q.1.1, by have := q.1.2; omega⟩, q.2.1, q.2.2.1, zm1_or.mpr q.2.2.2⟩
end
