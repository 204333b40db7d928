/-! ===== both: calls that can be undone ===== -/
theorem zDR_sw {n kn N H i j : Nat} {W F E X T sl : Nat → Nat} (h : zDR n kn N H W F E X T (fun q => sl (61 * 0 + q))) (hi : i < n) (hj : j < n) (hn : n ≤ 6) : zDR n kn N H (zsw W i j) F E X T (fun q => zsw sl i j (61 * 0 + q)) := by
  obtain ⟨h1, h2, h3, h4, h5, h6, h7, h8, h9, h10⟩ := h
  simp only [Nat.mul_zero, Nat.zero_add] at h1 h3 h4 h6 h7 h8 h9 h10
  have hi6 : ∀ q, 6 ≤ q → zsw sl i j q = sl q := fun q hq => by unfold zsw; rw [va_up_ne _ _ (by omega), va_up_ne _ _ (by omega)]
  unfold zDR
  simp only [Nat.mul_zero, Nat.zero_add]
  refine ⟨by rw [hi6 _ (by omega)]; exact h1, h2, fun q hq => by rw [hi6 _ (by omega)]; exact h3 q hq, zsw_congr h4 hi hj, zsw_lt h5 (by omega) (by omega), zsw_lt h6 (by omega) (by omega), fun m hm => by rw [hi6 _ (by omega)]; exact h7 m hm, fun q hq => by rw [hi6 _ (by omega)]; exact h8 q hq, fun q hq => by rw [hi6 _ (by omega)]; exact h9 q hq, fun q hq => by rw [hi6 _ (by omega)]; exact h10 q hq⟩
theorem zDR_x {n kn N H i v : Nat} {W F E X T sl : Nat → Nat} (h : zDR n kn N H W F E X T (fun q => sl (61 * 0 + q))) (hi : i < 6) (hn : n ≤ 6) : zDR n kn N H W F E (va_up X i v) T (fun q => va_up sl (24 + i) v (61 * 0 + q)) := by
  obtain ⟨h1, h2, h3, h4, h5, h6, h7, h8, h9, h10⟩ := h
  simp only [Nat.mul_zero, Nat.zero_add] at h1 h3 h4 h6 h7 h8 h9 h10
  unfold zDR
  simp only [Nat.mul_zero, Nat.zero_add]
  refine ⟨by rw [va_up_ne _ _ (by omega)]; exact h1, h2, fun q hq => by rw [va_up_ne _ _ (by omega)]; exact h3 q hq, fun q hq => by rw [va_up_ne _ _ (by omega)]; exact h4 q hq, h5, fun q hq => by rw [va_up_ne _ _ (by omega)]; exact h6 q hq, fun m hm => by rw [va_up_ne _ _ (by omega)]; exact h7 m hm, fun q hq => by rw [va_up_ne _ _ (by omega)]; exact h8 q hq, fun q hq => ?_, fun q hq => by rw [va_up_ne _ _ (by omega)]; exact h10 q hq⟩
  by_cases e : q = i
  · subst e; rw [va_up_self, va_up_self]
  · rw [va_up_ne _ _ e, va_up_ne _ _ (by omega)]; exact h9 q hq
theorem zDR_k {n kn N H m k : Nat} {W F E X T sl : Nat → Nat} (h : zDR n kn N H W F E X T (fun q => sl (61 * 0 + q))) (hm : m < 6) (hk : k < kn) (hn : n ≤ 6) : zDR n kn N H W (va_up F m k) E X T (fun q => va_up sl (6 + m) k (61 * 0 + q)) := by
  obtain ⟨h1, h2, h3, h4, h5, h6, h7, h8, h9, h10⟩ := h
  simp only [Nat.mul_zero, Nat.zero_add] at h1 h3 h4 h6 h7 h8 h9 h10
  unfold zDR
  simp only [Nat.mul_zero, Nat.zero_add]
  refine ⟨by rw [va_up_ne _ _ (by omega)]; exact h1, h2, fun q hq => by rw [va_up_ne _ _ (by omega)]; exact h3 q hq, fun q hq => by rw [va_up_ne _ _ (by omega)]; exact h4 q hq, h5, fun q hq => by rw [va_up_ne _ _ (by omega)]; exact h6 q hq, fun q hq => ?_, fun q hq => by rw [va_up_ne _ _ (by omega)]; exact h8 q hq, fun q hq => by rw [va_up_ne _ _ (by omega)]; exact h9 q hq, fun q hq => by rw [va_up_ne _ _ (by omega)]; exact h10 q hq⟩
  by_cases e : q = m
  · subst e; rw [va_up_self, va_up_self]; exact ⟨rfl, hk⟩
  · rw [va_up_ne _ _ e, va_up_ne _ _ (by omega)]; exact h7 q hq
theorem zDR_h {n kn N H H' j b : Nat} {W F E X T sl : Nat → Nat} (h : zDR n kn N H W F E X T (fun q => sl (61 * 0 + q))) (hj : j < 6) (hn : n ≤ 6) (hH : H' < 2 ^ n) (hb : ∀ i, i < 6 → H' / 2 ^ i % 2 = if i = j then b else H / 2 ^ i % 2) : zDR n kn N H' W F E X T (fun q => va_up sl (12 + j) b (61 * 0 + q)) := by
  obtain ⟨h1, h2, h3, h4, h5, h6, h7, h8, h9, h10⟩ := h
  simp only [Nat.mul_zero, Nat.zero_add] at h1 h3 h4 h6 h7 h8 h9 h10
  unfold zDR
  simp only [Nat.mul_zero, Nat.zero_add]
  refine ⟨by rw [va_up_ne _ _ (by omega)]; exact h1, hH, fun q hq => ?_, fun q hq => by rw [va_up_ne _ _ (by omega)]; exact h4 q hq, h5, fun q hq => by rw [va_up_ne _ _ (by omega)]; exact h6 q hq, fun m hm => by rw [va_up_ne _ _ (by omega)]; exact h7 m hm, fun q hq => by rw [va_up_ne _ _ (by omega)]; exact h8 q hq, fun q hq => by rw [va_up_ne _ _ (by omega)]; exact h9 q hq, fun q hq => by rw [va_up_ne _ _ (by omega)]; exact h10 q hq⟩
  rw [hb q hq]
  by_cases e : q = j
  · subst e; rw [va_up_self, if_pos rfl]
  · rw [va_up_ne _ _ (by omega), if_neg e]; exact h3 q hq
section
variable {xs : Nat → Int32} {L : Nat} {tl tp : Nat} {tb : Nat → Nat} {cu : Nat} {tk tq tm : Nat → Nat} {tw : Nat → Int32} {tc : Nat → Nat} {tr tg tt ts tv : Nat → Nat → Nat} {dn dh : Nat → Nat} {dw dk de dx dt : Nat → Nat → Nat} {ps : Nat} {pd : Nat → Nat} {ks : Nat} {kq : Nat → Nat} {ss : Nat} {sc sn wm wb wr : Nat → Nat} {wp wt : Nat} {aw ak av ap an : Nat → Nat} {aq al : Nat}  {len at_ kep don see : Nat} {fit : Int32} {tx : Nat → Int32} {td ki kd pe sk wo sl sa wy be po mh : Nat → Nat} {go : Nat → Int32} 
theorem b_push (hR : zRR tl tp tb cu tk tq tm tw tc tr tg tt ts tv dn dh dw dk de dx dt ps pd ks kq ss sc sn wm wb wr wp wt aw ak av ap an aq al len at_ kep don see fit tx td ki kd pe sk wo sl sa wy be po mh go) : ∃ (dn1 dh1 : Nat → Nat) (dw1 dk1 de1 dx1 dt1 : Nat → Nat → Nat) (ps1 : Nat) (pd1 : Nat → Nat), (∀ M, zev xs L 22 0 [.ref 27, .ref (zda 0)] [] (zK tl tp tb cu tk tq tm tw tc tr tg tt ts tv dn dh dw dk de dx dt ps pd ks kq ss sc sn wm wb wr wp wt aw ak av ap an aq al ++ M) = some (none, zK tl tp tb cu tk tq tm tw tc tr tg tt ts tv (dn1) (dh1) (dw1) (dk1) (de1) (dx1) (dt1) (ps1) (pd1) ks kq ss sc sn wm wb wr wp wt aw ak av ap an aq al ++ M)) ∧ zR3 (pe 0) (ki 0) dn1 dh1 dw1 dk1 de1 dx1 dt1 ps1 pd1 ks kq (zkn sl don) (zknd don) kep ∧ zSame dn dh dw dk de dx dt dn1 dh1 dw1 dk1 de1 dx1 dt1 0 0 := by
  obtain ⟨hcu, ⟨t1, t2, t3, t4⟩, R2, hv2, R3, R4, R5⟩ := id hR
  obtain ⟨k1, k2, q1, q2, w1, w2, c1, c2, r1, s1, v1, v2, v3⟩ := id R2
  obtain ⟨⟨⟨n1, n2, n3, n4, n5, n6, n7, n8, n9, n10⟩, n11⟩, p1, p2, p3, p4, p5, p6, p7, p8, p9⟩ := id R3
  simp only [Nat.mul_zero, Nat.zero_add] at n1 n3 n4 n6 n7 n8 n9 n10
  have hq2 : 1 ≤ tq cu ∧ tq cu ≤ 6 := by rw [q1]; exact q2
  have hk2 : tk cu ≤ 5 := by rw [k1]; exact k2.2
  have F5 : ∀ m, m < 6 → dk 0 m < 5 := fun m hm => by have := (n7 m hm).2; omega
  have S5 : ∀ m, m < 6 → sl (6 + m) < 5 := fun m hm => by have := n7 m hm; omega
  have H6 : dh 0 < 64 := Nat.lt_of_lt_of_le n2 (Nat.le_trans (Nat.pow_le_pow_right (by decide) q2.2) (by decide))
  have hl3 : len ≤ 300 := by omega
  have hdo : don ≤ 8 := by omega
  have KW : ∀ i, i < pe 0 → dk 0 (dw 0 i) = sl (6 + sl i) := fun i hi => by rw [(n7 _ (n5 i (by omega))).1, n4 i hi]
  have hx : zPi ps pd ≠ 0 := by
    unfold zPi
    by_cases g : ps = 8
    · rw [if_pos g]; have := p3 0 (by omega); omega
    · rw [if_neg g]; have := p3 ps (by omega); omega
  exact ⟨_, _, _, _, _, _, _, _, _, fun M => k_pushU (by omega) p2 (fun j hj => by have := p3 j hj; omega), zR3_push R3 q2.2, zSame_ne (Ne.symm hx)⟩
theorem b_dawn (hR : zRR tl tp tb cu tk tq tm tw tc tr tg tt ts tv dn dh dw dk de dx dt ps pd ks kq ss sc sn wm wb wr wp wt aw ak av ap an aq al len at_ kep don see fit tx td ki kd pe sk wo sl sa wy be po mh go) {z : Int32} : zDo xs L 66 [.ref 0, .int z] 123 [.ref 104, .int z] (zK tl tp tb cu tk tq tm tw tc tr tg tt ts tv dn dh dw dk de dx dt ps pd ks kq ss sc sn wm wb wr wp wt aw ak av ap an aq al ++ zM len at_ kep don see fit tx td ki kd pe sk wo sl sa wy be po mh go) := by
  obtain ⟨hcu, ⟨t1, t2, t3, t4⟩, R2, hv2, R3, R4, R5⟩ := id hR
  obtain ⟨k1, k2, q1, q2, w1, w2, c1, c2, r1, s1, v1, v2, v3⟩ := id R2
  obtain ⟨⟨⟨n1, n2, n3, n4, n5, n6, n7, n8, n9, n10⟩, n11⟩, p1, p2, p3, p4, p5, p6, p7, p8, p9⟩ := id R3
  simp only [Nat.mul_zero, Nat.zero_add] at n1 n3 n4 n6 n7 n8 n9 n10
  have hq2 : 1 ≤ tq cu ∧ tq cu ≤ 6 := by rw [q1]; exact q2
  have hk2 : tk cu ≤ 5 := by rw [k1]; exact k2.2
  have F5 : ∀ m, m < 6 → dk 0 m < 5 := fun m hm => by have := (n7 m hm).2; omega
  have S5 : ∀ m, m < 6 → sl (6 + m) < 5 := fun m hm => by have := n7 m hm; omega
  have H6 : dh 0 < 64 := Nat.lt_of_lt_of_le n2 (Nat.le_trans (Nat.pow_le_pow_right (by decide) q2.2) (by decide))
  have hl3 : len ≤ 300 := by omega
  have hdo : don ≤ 8 := by omega
  have KW : ∀ i, i < pe 0 → dk 0 (dw 0 i) = sl (6 + sl i) := fun i hi => by rw [(n7 _ (n5 i (by omega))).1, n4 i hi]
  by_cases hb : 0 ≤ z.toInt ∧ z.toInt ≤ 9999
  · obtain ⟨a, a1, a2, rfl⟩ := zin_9 (a := 0) (b := 9999) (n := z) (by omega) (by omega)
    by_cases g : dn 0 = 9999
    · exact zDo_mk (c_dawn_no (by omega) g) (e_dawn_no zK_len (by omega) (by omega)) (mt_0 zK_len) rfl (zRel_mk hR)
    · obtain ⟨dn1, dh1, dw1, dk1, de1, dx1, dt1, ps1, pd1, hpu, R3', y1, y2, y3, y4, y5, y6, y7⟩ := b_push (xs := xs) (L := L) hR
      refine zDo_mk (c_dawn hcu (by omega) hq2 (by omega) (hpu _) (by omega) (fun i hi => by rw [y3]; exact n5 i (by omega)) (fun i hi => by rw [y4, y3]; exact F5 _ (n5 i (by omega)))) (e_dawn zK_len q2 (by omega) (by omega) hdo n6 S5 (fun j hj => zkn_0 hdo hj)) (mt_0 zK_len) (by rw [y1, n1]) (zRel_mk ⟨hcu, ⟨t1, t2, t3, t4⟩, R2, hv2, ?_, R4, R5⟩)
      refine zR3_go R3' q2.2 (fun d h0 h1 => ⟨va_up_ne _ _ h0, rfl, va_up_ne _ _ h0, rfl, va_up_ne _ _ h0, rfl, va_up_ne _ _ h0⟩) (fun j h1 h2 => zdawn_o q2.2 (by omega)) ⟨?_, by rw [va_up_self]; omega⟩
      simp only [va_up_self]
      rw [q1]
      exact zDR_dawn (s := 0) R3'.1.1 q2 k2.2 (fun k hk => (r1 k hk).2.1)
  · have hb' : ¬ zin z 10000 := fun q => hb ⟨q.1, by have := q.2; omega⟩
    exact zDo_mk (c_dawn_bad hb') (e_dawn_bad hb) (mt_0 zK_len) rfl (zRel_mk hR)
theorem b_change (hR : zRR tl tp tb cu tk tq tm tw tc tr tg tt ts tv dn dh dw dk de dx dt ps pd ks kq ss sc sn wm wb wr wp wt aw ak av ap an aq al len at_ kep don see fit tx td ki kd pe sk wo sl sa wy be po mh go) {i j : Int32} : zDo xs L 67 [.ref 0, .int i, .int j] 126 [.ref 104, .int i, .int j] (zK tl tp tb cu tk tq tm tw tc tr tg tt ts tv dn dh dw dk de dx dt ps pd ks kq ss sc sn wm wb wr wp wt aw ak av ap an aq al ++ zM len at_ kep don see fit tx td ki kd pe sk wo sl sa wy be po mh go) := by
  obtain ⟨hcu, ⟨t1, t2, t3, t4⟩, R2, hv2, R3, R4, R5⟩ := id hR
  obtain ⟨k1, k2, q1, q2, w1, w2, c1, c2, r1, s1, v1, v2, v3⟩ := id R2
  obtain ⟨⟨⟨n1, n2, n3, n4, n5, n6, n7, n8, n9, n10⟩, n11⟩, p1, p2, p3, p4, p5, p6, p7, p8, p9⟩ := id R3
  simp only [Nat.mul_zero, Nat.zero_add] at n1 n3 n4 n6 n7 n8 n9 n10
  have hq2 : 1 ≤ tq cu ∧ tq cu ≤ 6 := by rw [q1]; exact q2
  have hk2 : tk cu ≤ 5 := by rw [k1]; exact k2.2
  have F5 : ∀ m, m < 6 → dk 0 m < 5 := fun m hm => by have := (n7 m hm).2; omega
  have S5 : ∀ m, m < 6 → sl (6 + m) < 5 := fun m hm => by have := n7 m hm; omega
  have H6 : dh 0 < 64 := Nat.lt_of_lt_of_le n2 (Nat.le_trans (Nat.pow_le_pow_right (by decide) q2.2) (by decide))
  have hl3 : len ≤ 300 := by omega
  have hdo : don ≤ 8 := by omega
  have KW : ∀ i, i < pe 0 → dk 0 (dw 0 i) = sl (6 + sl i) := fun i hi => by rw [(n7 _ (n5 i (by omega))).1, n4 i hi]
  by_cases hb : zin i (pe 0) ∧ zin j (pe 0) ∧ i ≠ j
  · obtain ⟨hi, hj, hij⟩ := hb
    obtain ⟨a, ha, rfl⟩ := zin_of hi (by omega)
    obtain ⟨b, hbb, rfl⟩ := zin_of hj (by omega)
    have hab : a ≠ b := fun q => hij (by rw [q])
    obtain ⟨dn1, dh1, dw1, dk1, de1, dx1, dt1, ps1, pd1, hpu, R3', y1, y2, y3, y4, y5, y6, y7⟩ := b_push (xs := xs) (L := L) hR
    have ec := c_change (xs := xs) (L := L) (tl := tl) (tp := tp) (tb := tb) (cu := cu) (tk := tk) (tq := tq) (tm := tm) (tw := tw) (tc := tc) (tr := tr) (tg := tg) (tt := tt) (ts := ts) (tv := tv) (dn := dn) (dh := dh) (dw := dw) (dk := dk) (de := de) (dx := dx) (dt := dt) (ps := ps) (pd := pd) (ks := ks) (kq := kq) (ss := ss) (sc := sc) (sn := sn) (wm := wm) (wb := wb) (wr := wr) (wp := wp) (wt := wt) (aw := aw) (ak := ak) (av := av) (ap := ap) (an := an) (aq := aq) (al := al) (M := zM len at_ kep don see fit tx td ki kd pe sk wo sl sa wy be po mh go) hcu hq2.2 (i := a) (j := b) (by omega) (by omega) hab (n5 a (by omega)) (n5 b (by omega)) (F5 _ (n5 a (by omega))) (F5 _ (n5 b (by omega))) (by omega) (hpu _) (by rw [y3]; exact n5 b (by omega))
    have ee := fun C hC => e_change (xs := xs) (L := L) (len := len) (at_ := at_) (kep := kep) (don := don) (see := see) (fit := fit) (tx := tx) (td := td) (ki := ki) (kd := kd) (pe := pe) (sk := sk) (wo := wo) (sl := sl) (sa := sa) (wy := wy) (be := be) (po := po) (mh := mh) (go := go) (C := C) hC q2 ha hbb hab hdo n6 S5 c2
    rw [KW a ha, KW b hbb, c1] at ec
    by_cases g : td 1 / 2 ^ sl (6 + sl a) % 2 = 0 ∧ td 1 / 2 ^ sl (6 + sl b) % 2 = 0
    · rw [if_pos g] at ec
      have e2 := ee (zK tl tp tb cu tk tq tm tw tc tr tg tt ts tv (dn1) (dh1) (va_up dw1 0 (zsw (dw1 0) a b)) (dk1) (de1) (dx1) (dt1) (ps1) (pd1) ks kq ss sc sn wm wb wr wp wt aw ak av ap an aq al) zK_len
      rw [if_pos g] at e2
      refine zDo_mk ec e2 (mt_0 zK_len) (by rw [y4, y3, KW b hbb]) (zRel_mk ⟨hcu, ⟨t1, t2, t3, t4⟩, R2, hv2, ?_, R4, R5⟩)
      refine zR3_go R3' q2.2 (fun d h0 h1 => ⟨rfl, rfl, va_up_ne _ _ h0, rfl, rfl, rfl, rfl⟩) (fun q h1 h2 => by unfold zsw; rw [va_up_ne _ _ (by omega), va_up_ne _ _ (by omega)]) ⟨?_, R3'.1.2⟩
      simp only [va_up_self]
      exact zDR_sw R3'.1.1 ha hbb q2.2
    · rw [if_neg g] at ec
      have e2 := ee (zK tl tp tb cu tk tq tm tw tc tr tg tt ts tv dn dh dw dk de dx dt ps pd ks kq ss sc sn wm wb wr wp wt aw ak av ap an aq al) zK_len
      rw [if_neg g] at e2
      exact zDo_mk ec e2 (mt_0 zK_len) rfl (zRel_mk hR)
  · exact zDo_mk (c_change_bad hcu hq2.2 (by rw [q1]; exact hb)) (e_change_bad zK_len q2 hb) (mt_0 zK_len) rfl (zRel_mk hR)
theorem b_deed (hR : zRR tl tp tb cu tk tq tm tw tc tr tg tt ts tv dn dh dw dk de dx dt ps pd ks kq ss sc sn wm wb wr wp wt aw ak av ap an aq al len at_ kep don see fit tx td ki kd pe sk wo sl sa wy be po mh go) {i d : Int32} : zDo xs L 68 [.ref 0, .int i, .int d] 128 [.ref 104, .int i, .int d] (zK tl tp tb cu tk tq tm tw tc tr tg tt ts tv dn dh dw dk de dx dt ps pd ks kq ss sc sn wm wb wr wp wt aw ak av ap an aq al ++ zM len at_ kep don see fit tx td ki kd pe sk wo sl sa wy be po mh go) := by
  obtain ⟨hcu, ⟨t1, t2, t3, t4⟩, R2, hv2, R3, R4, R5⟩ := id hR
  obtain ⟨k1, k2, q1, q2, w1, w2, c1, c2, r1, s1, v1, v2, v3⟩ := id R2
  obtain ⟨⟨⟨n1, n2, n3, n4, n5, n6, n7, n8, n9, n10⟩, n11⟩, p1, p2, p3, p4, p5, p6, p7, p8, p9⟩ := id R3
  simp only [Nat.mul_zero, Nat.zero_add] at n1 n3 n4 n6 n7 n8 n9 n10
  have hq2 : 1 ≤ tq cu ∧ tq cu ≤ 6 := by rw [q1]; exact q2
  have hk2 : tk cu ≤ 5 := by rw [k1]; exact k2.2
  have F5 : ∀ m, m < 6 → dk 0 m < 5 := fun m hm => by have := (n7 m hm).2; omega
  have S5 : ∀ m, m < 6 → sl (6 + m) < 5 := fun m hm => by have := n7 m hm; omega
  have H6 : dh 0 < 64 := Nat.lt_of_lt_of_le n2 (Nat.le_trans (Nat.pow_le_pow_right (by decide) q2.2) (by decide))
  have hl3 : len ≤ 300 := by omega
  have hdo : don ≤ 8 := by omega
  have KW : ∀ i, i < pe 0 → dk 0 (dw 0 i) = sl (6 + sl i) := fun i hi => by rw [(n7 _ (n5 i (by omega))).1, n4 i hi]
  by_cases hb : zin i (pe 0) ∧ 0 ≤ d.toInt ∧ d.toInt ≤ 5
  · obtain ⟨hi, hw⟩ := hb
    obtain ⟨a, ha, rfl⟩ := zin_of hi (by omega)
    obtain ⟨b, b1, b2, rfl⟩ := zin_9 (a := 0) (b := 5) (n := d) (by omega) (by omega)
    obtain ⟨dn1, dh1, dw1, dk1, de1, dx1, dt1, ps1, pd1, hpu, R3', y1, y2, y3, y4, y5, y6, y7⟩ := b_push (xs := xs) (L := L) hR
    have ec := c_deed (xs := xs) (L := L) (tl := tl) (tp := tp) (tb := tb) (cu := cu) (tk := tk) (tq := tq) (tm := tm) (tw := tw) (tc := tc) (tr := tr) (tg := tg) (tt := tt) (ts := ts) (tv := tv) (dn := dn) (dh := dh) (dw := dw) (dk := dk) (de := de) (dx := dx) (dt := dt) (ps := ps) (pd := pd) (ks := ks) (kq := kq) (ss := ss) (sc := sc) (sn := sn) (wm := wm) (wb := wb) (wr := wr) (wp := wp) (wt := wt) (aw := aw) (ak := ak) (av := av) (ap := ap) (an := an) (aq := aq) (al := al) (M := zM len at_ kep don see fit tx td ki kd pe sk wo sl sa wy be po mh go) hcu hq2.2 (i := a) (d := b) (by omega) (by omega) (hpu _) (by rw [y3]; exact n5 a (by omega)) (by rw [y4, y3]; exact F5 _ (n5 a (by omega))) (by rw [(s1 a ha).1]; exact (s1 a ha).2)
    have ee := fun C hC => e_deed (xs := xs) (L := L) (len := len) (at_ := at_) (kep := kep) (don := don) (see := see) (fit := fit) (tx := tx) (td := td) (ki := ki) (kd := kd) (pe := pe) (sk := sk) (wo := wo) (sl := sl) (sa := sa) (wy := wy) (be := be) (po := po) (mh := mh) (go := go) (C := C) hC q2 hdo n6 S5 ha (show b < 6 by omega)
    have er : tr cu (dk1 0 (dw1 0 a)) &&& ts cu a = kd (3 * sl (6 + sl a)) &&& sk a := by
      rw [y4, y3, (s1 a ha).1, (r1 _ (n7 _ (n5 a (by omega))).2).1, KW a ha]
    rw [er] at ec
    by_cases g : kd (3 * sl (6 + sl a)) &&& sk a &&& 2 ^ b = 0
    · rw [if_neg (zbit_and.mp g)] at ec
      have e2 := ee (zK tl tp tb cu tk tq tm tw tc tr tg tt ts tv (dn1) (dh1) (dw1) (dk1) (de1) (va_up dx1 0 (va_up (dx1 0) a (dx1 0 a + 1))) (dt1) (ps1) (pd1) ks kq ss sc sn wm wb wr wp wt aw ak av ap an aq al) zK_len
      rw [if_pos g] at e2
      refine zDo_mk ec e2 (mt_0 zK_len) rfl (zRel_mk ⟨hcu, ⟨t1, t2, t3, t4⟩, R2, hv2, ?_, R4, R5⟩)
      refine zR3_go R3' q2.2 (fun d h0 h1 => ⟨rfl, rfl, rfl, rfl, rfl, va_up_ne _ _ h0, rfl⟩) (fun q h1 h2 => va_up_ne _ _ (by omega)) ⟨?_, R3'.1.2⟩
      simp only [va_up_self]
      rw [show dx1 0 a + 1 = sl (24 + a) + 1 by rw [y6, n9 a (by omega)]]
      exact zDR_x R3'.1.1 (by omega) q2.2
    · rw [if_pos (by have h := fun q => g (zbit_and.mpr q); exact Classical.byContradiction h)] at ec
      have e2 := ee (zK tl tp tb cu tk tq tm tw tc tr tg tt ts tv (dn1) (dh1) (dw1) (dk1) (de1) (dx1) (dt1) (ps1) (pd1) ks kq ss sc sn wm wb wr wp wt aw ak av ap an aq al) zK_len
      rw [if_neg g] at e2
      exact zDo_mk ec e2 (mt_0 zK_len) rfl (zRel_mk ⟨hcu, ⟨t1, t2, t3, t4⟩, R2, hv2, R3', R4, R5⟩)
  · have hb' : ¬ (zin i (tq cu) ∧ zin d 6) := by
      rw [q1]; intro q; exact hb ⟨q.1, q.2.1, by have := q.2.2; omega⟩
    exact zDo_mk (c_deed_bad hcu hq2.2 hb') (e_deed_bad zK_len q2 hb) (mt_0 zK_len) rfl (zRel_mk hR)
theorem b_make (hR : zRR tl tp tb cu tk tq tm tw tc tr tg tt ts tv dn dh dw dk de dx dt ps pd ks kq ss sc sn wm wb wr wp wt aw ak av ap an aq al len at_ kep don see fit tx td ki kd pe sk wo sl sa wy be po mh go) {i k : Int32} : zDo xs L 82 [.ref 0, .int i, .int k, .null] 152 [.ref 104, .int i, .int k, .null] (zK tl tp tb cu tk tq tm tw tc tr tg tt ts tv dn dh dw dk de dx dt ps pd ks kq ss sc sn wm wb wr wp wt aw ak av ap an aq al ++ zM len at_ kep don see fit tx td ki kd pe sk wo sl sa wy be po mh go) := by
  obtain ⟨hcu, ⟨t1, t2, t3, t4⟩, R2, hv2, R3, R4, R5⟩ := id hR
  obtain ⟨k1, k2, q1, q2, w1, w2, c1, c2, r1, s1, v1, v2, v3⟩ := id R2
  obtain ⟨⟨⟨n1, n2, n3, n4, n5, n6, n7, n8, n9, n10⟩, n11⟩, p1, p2, p3, p4, p5, p6, p7, p8, p9⟩ := id R3
  simp only [Nat.mul_zero, Nat.zero_add] at n1 n3 n4 n6 n7 n8 n9 n10
  have hq2 : 1 ≤ tq cu ∧ tq cu ≤ 6 := by rw [q1]; exact q2
  have hk2 : tk cu ≤ 5 := by rw [k1]; exact k2.2
  have F5 : ∀ m, m < 6 → dk 0 m < 5 := fun m hm => by have := (n7 m hm).2; omega
  have S5 : ∀ m, m < 6 → sl (6 + m) < 5 := fun m hm => by have := n7 m hm; omega
  have H6 : dh 0 < 64 := Nat.lt_of_lt_of_le n2 (Nat.le_trans (Nat.pow_le_pow_right (by decide) q2.2) (by decide))
  have hl3 : len ≤ 300 := by omega
  have hdo : don ≤ 8 := by omega
  have KW : ∀ i, i < pe 0 → dk 0 (dw 0 i) = sl (6 + sl i) := fun i hi => by rw [(n7 _ (n5 i (by omega))).1, n4 i hi]
  by_cases hb : zin i (pe 0) ∧ zin k (ki 0)
  · obtain ⟨hi, hw⟩ := hb
    obtain ⟨a, ha, rfl⟩ := zin_of hi (by omega)
    obtain ⟨b, hbb, rfl⟩ := zin_of hw (by omega)
    obtain ⟨dn1, dh1, dw1, dk1, de1, dx1, dt1, ps1, pd1, hpu, R3', y1, y2, y3, y4, y5, y6, y7⟩ := b_push (xs := xs) (L := L) hR
    refine zDo_mk (c_make hcu hq2.2 hk2 (by omega) (by omega) (hpu _)) (e_make zK_len q2 k2 hdo ha hbb) (mt_0 zK_len) (by rw [(n7 a (by omega)).1]) (zRel_mk ⟨hcu, ⟨t1, t2, t3, t4⟩, R2, hv2, ?_, R4, R5⟩)
    refine zR3_go R3' q2.2 (fun d h0 h1 => ⟨rfl, rfl, rfl, va_up_ne _ _ h0, rfl, rfl, rfl⟩) (fun q h1 h2 => va_up_ne _ _ (by omega)) ⟨?_, R3'.1.2⟩
    simp only [va_up_self]
    exact zDR_k R3'.1.1 (by omega) hbb q2.2
  · exact zDo_mk (c_make_bad hcu hq2.2 hk2 (by rw [q1, k1]; exact hb)) (e_make_bad zK_len q2 k2 hb) (mt_0 zK_len) rfl (zRel_mk hR)
theorem b_sentence (hR : zRR tl tp tb cu tk tq tm tw tc tr tg tt ts tv dn dh dw dk de dx dt ps pd ks kq ss sc sn wm wb wr wp wt aw ak av ap an aq al len at_ kep don see fit tx td ki kd pe sk wo sl sa wy be po mh go) {i j : Int32} : zDo xs L 69 [.ref 0, .int i, .int j] 131 [.ref 104, .int i, .int j] (zK tl tp tb cu tk tq tm tw tc tr tg tt ts tv dn dh dw dk de dx dt ps pd ks kq ss sc sn wm wb wr wp wt aw ak av ap an aq al ++ zM len at_ kep don see fit tx td ki kd pe sk wo sl sa wy be po mh go) := by
  obtain ⟨hcu, ⟨t1, t2, t3, t4⟩, R2, hv2, R3, R4, R5⟩ := id hR
  obtain ⟨k1, k2, q1, q2, w1, w2, c1, c2, r1, s1, v1, v2, v3⟩ := id R2
  obtain ⟨⟨⟨n1, n2, n3, n4, n5, n6, n7, n8, n9, n10⟩, n11⟩, p1, p2, p3, p4, p5, p6, p7, p8, p9⟩ := id R3
  simp only [Nat.mul_zero, Nat.zero_add] at n1 n3 n4 n6 n7 n8 n9 n10
  have hq2 : 1 ≤ tq cu ∧ tq cu ≤ 6 := by rw [q1]; exact q2
  have hk2 : tk cu ≤ 5 := by rw [k1]; exact k2.2
  have F5 : ∀ m, m < 6 → dk 0 m < 5 := fun m hm => by have := (n7 m hm).2; omega
  have S5 : ∀ m, m < 6 → sl (6 + m) < 5 := fun m hm => by have := n7 m hm; omega
  have H6 : dh 0 < 64 := Nat.lt_of_lt_of_le n2 (Nat.le_trans (Nat.pow_le_pow_right (by decide) q2.2) (by decide))
  have hl3 : len ≤ 300 := by omega
  have hdo : don ≤ 8 := by omega
  have KW : ∀ i, i < pe 0 → dk 0 (dw 0 i) = sl (6 + sl i) := fun i hi => by rw [(n7 _ (n5 i (by omega))).1, n4 i hi]
  by_cases hb : zin i (pe 0) ∧ zin j (pe 0)
  · obtain ⟨hi, hj⟩ := hb
    obtain ⟨a, ha, rfl⟩ := zin_of hi (by omega)
    obtain ⟨b, hbb, rfl⟩ := zin_of hj (by omega)
    obtain ⟨dn1, dh1, dw1, dk1, de1, dx1, dt1, ps1, pd1, hpu, R3', y1, y2, y3, y4, y5, y6, y7⟩ := b_push (xs := xs) (L := L) hR
    have ec := c_sentence (xs := xs) (L := L) (tl := tl) (tp := tp) (tb := tb) (cu := cu) (tk := tk) (tq := tq) (tm := tm) (tw := tw) (tc := tc) (tr := tr) (tg := tg) (tt := tt) (ts := ts) (tv := tv) (dn := dn) (dh := dh) (dw := dw) (dk := dk) (de := de) (dx := dx) (dt := dt) (ps := ps) (pd := pd) (ks := ks) (kq := kq) (ss := ss) (sc := sc) (sn := sn) (wm := wm) (wb := wb) (wr := wr) (wp := wp) (wt := wt) (aw := aw) (ak := ak) (av := av) (ap := ap) (an := an) (aq := aq) (al := al) (M := zM len at_ kep don see fit tx td ki kd pe sk wo sl sa wy be po mh go) hcu hq2.2 (i := a) (j := b) (by omega) (by omega) (n5 a (by omega)) (F5 _ (n5 a (by omega))) H6 (hpu _) (by rw [y2]; exact H6)
    have ee := fun C hC => e_judges (xs := xs) (L := L) (len := len) (at_ := at_) (kep := kep) (don := don) (see := see) (fit := fit) (tx := tx) (td := td) (ki := ki) (kd := kd) (pe := pe) (sk := sk) (wo := wo) (sl := sl) (sa := sa) (wy := wy) (be := be) (po := po) (mh := mh) (go := go) (C := C) hC q2 hdo n6 S5 (fun j hj => by rw [n3 j hj]; exact Nat.mod_lt _ (by decide)) ha hbb (s := 1) (by omega)
    rw [KW a ha] at ec
    have hbit := n3 b (by omega)
    obtain ⟨z1, z2, z3⟩ := zhb H6
    have hH := (z2 b (pe 0) hbb q2.2 n2).1
    have hH6 := Nat.lt_of_lt_of_le hH (Nat.le_trans (Nat.pow_le_pow_right (by decide) q2.2) (by decide) : 2 ^ pe 0 ≤ 64)
    have hbits : ∀ q, q < 6 → (dh 0 ||| 2 ^ b) / 2 ^ q % 2 = if q = b then 1 else dh 0 / 2 ^ q % 2 := fun q hq => (z1 b q (by omega) hq).1
    by_cases g : sl (6 + sl a) = 0 ∧ ¬ sl (12 + b) = 1
    · rw [if_pos (by refine ⟨g.1, ?_⟩; have := g.2; omega)] at ec
      have e2 := e_sentence (xs := xs) (L := L) (len := len) (at_ := at_) (kep := kep) (don := don) (see := see) (fit := fit) (tx := tx) (td := td) (ki := ki) (kd := kd) (pe := pe) (sk := sk) (wo := wo) (sl := sl) (sa := sa) (wy := wy) (be := be) (po := po) (mh := mh) (go := go) (C := zK tl tp tb cu tk tq tm tw tc tr tg tt ts tv (dn1) (va_up dh1 0 (dh1 0 ||| 2 ^ b)) (dw1) (dk1) (de1) (dx1) (dt1) (ps1) (pd1) ks kq ss sc sn wm wb wr wp wt aw ak av ap an aq al) zK_len (ee _ zK_len) (by rw [if_pos g]; exact ⟨_, _, rfl⟩)
      rw [if_pos g] at e2
      refine zDo_mk ec e2 (mt_0 zK_len) ?_ (zRel_mk ⟨hcu, ⟨t1, t2, t3, t4⟩, R2, hv2, ?_, R4, R5⟩)
      · rw [y2, (zhb hH6).2.2 (pe 0) q2.2 hH]
        congr 1
        refine zsum_congr (fun q hq => ?_)
        rw [hbits q (by omega)]
        by_cases e : q = b
        · subst e; rw [if_pos rfl, va_up_self]
        · rw [if_neg e, va_up_ne _ _ (by omega), zkn_0 hdo (by omega), n3 q (by omega)]
      · refine zR3_go R3' q2.2 (fun d h0 h1 => ⟨rfl, va_up_ne _ _ h0, rfl, rfl, rfl, rfl, rfl⟩) (fun q h1 h2 => va_up_ne _ _ (by omega)) ⟨?_, R3'.1.2⟩
        simp only [va_up_self]
        exact zDR_h R3'.1.1 (by omega) q2.2 (by rw [y2]; exact hH) (by rw [y2]; exact hbits)
    · rw [if_neg (fun q => g ⟨q.1, by have := q.2; omega⟩)] at ec
      have e2 := e_sentence (xs := xs) (L := L) (len := len) (at_ := at_) (kep := kep) (don := don) (see := see) (fit := fit) (tx := tx) (td := td) (ki := ki) (kd := kd) (pe := pe) (sk := sk) (wo := wo) (sl := sl) (sa := sa) (wy := wy) (be := be) (po := po) (mh := mh) (go := go) (C := zK tl tp tb cu tk tq tm tw tc tr tg tt ts tv dn dh dw dk de dx dt ps pd ks kq ss sc sn wm wb wr wp wt aw ak av ap an aq al) zK_len (ee _ zK_len) (by rw [if_neg g]; exact ⟨_, _, rfl⟩)
      rw [if_neg g] at e2
      exact zDo_mk ec e2 (mt_0 zK_len) rfl (zRel_mk hR)
  · have e2 := e_sentence (xs := xs) (L := L) (len := len) (at_ := at_) (kep := kep) (don := don) (see := see) (fit := fit) (tx := tx) (td := td) (ki := ki) (kd := kd) (pe := pe) (sk := sk) (wo := wo) (sl := sl) (sa := sa) (wy := wy) (be := be) (po := po) (mh := mh) (go := go) (C := zK tl tp tb cu tk tq tm tw tc tr tg tt ts tv dn dh dw dk de dx dt ps pd ks kq ss sc sn wm wb wr wp wt aw ak av ap an aq al) zK_len (e_judges_bad zK_len q2 (v3 := nI 1) hb) ⟨_, _, rfl⟩
    exact zDo_mk (c_sentence_bad hcu hq2.2 (by rw [q1]; exact hb)) e2 (mt_0 zK_len) rfl (zRel_mk hR)
theorem b_pardon (hR : zRR tl tp tb cu tk tq tm tw tc tr tg tt ts tv dn dh dw dk de dx dt ps pd ks kq ss sc sn wm wb wr wp wt aw ak av ap an aq al len at_ kep don see fit tx td ki kd pe sk wo sl sa wy be po mh go) {i j : Int32} : zDo xs L 70 [.ref 0, .int i, .int j] 132 [.ref 104, .int i, .int j] (zK tl tp tb cu tk tq tm tw tc tr tg tt ts tv dn dh dw dk de dx dt ps pd ks kq ss sc sn wm wb wr wp wt aw ak av ap an aq al ++ zM len at_ kep don see fit tx td ki kd pe sk wo sl sa wy be po mh go) := by
  obtain ⟨hcu, ⟨t1, t2, t3, t4⟩, R2, hv2, R3, R4, R5⟩ := id hR
  obtain ⟨k1, k2, q1, q2, w1, w2, c1, c2, r1, s1, v1, v2, v3⟩ := id R2
  obtain ⟨⟨⟨n1, n2, n3, n4, n5, n6, n7, n8, n9, n10⟩, n11⟩, p1, p2, p3, p4, p5, p6, p7, p8, p9⟩ := id R3
  simp only [Nat.mul_zero, Nat.zero_add] at n1 n3 n4 n6 n7 n8 n9 n10
  have hq2 : 1 ≤ tq cu ∧ tq cu ≤ 6 := by rw [q1]; exact q2
  have hk2 : tk cu ≤ 5 := by rw [k1]; exact k2.2
  have F5 : ∀ m, m < 6 → dk 0 m < 5 := fun m hm => by have := (n7 m hm).2; omega
  have S5 : ∀ m, m < 6 → sl (6 + m) < 5 := fun m hm => by have := n7 m hm; omega
  have H6 : dh 0 < 64 := Nat.lt_of_lt_of_le n2 (Nat.le_trans (Nat.pow_le_pow_right (by decide) q2.2) (by decide))
  have hl3 : len ≤ 300 := by omega
  have hdo : don ≤ 8 := by omega
  have KW : ∀ i, i < pe 0 → dk 0 (dw 0 i) = sl (6 + sl i) := fun i hi => by rw [(n7 _ (n5 i (by omega))).1, n4 i hi]
  by_cases hb : zin i (pe 0) ∧ zin j (pe 0)
  · obtain ⟨hi, hj⟩ := hb
    obtain ⟨a, ha, rfl⟩ := zin_of hi (by omega)
    obtain ⟨b, hbb, rfl⟩ := zin_of hj (by omega)
    obtain ⟨dn1, dh1, dw1, dk1, de1, dx1, dt1, ps1, pd1, hpu, R3', y1, y2, y3, y4, y5, y6, y7⟩ := b_push (xs := xs) (L := L) hR
    have ec := c_pardon (xs := xs) (L := L) (tl := tl) (tp := tp) (tb := tb) (cu := cu) (tk := tk) (tq := tq) (tm := tm) (tw := tw) (tc := tc) (tr := tr) (tg := tg) (tt := tt) (ts := ts) (tv := tv) (dn := dn) (dh := dh) (dw := dw) (dk := dk) (de := de) (dx := dx) (dt := dt) (ps := ps) (pd := pd) (ks := ks) (kq := kq) (ss := ss) (sc := sc) (sn := sn) (wm := wm) (wb := wb) (wr := wr) (wp := wp) (wt := wt) (aw := aw) (ak := ak) (av := av) (ap := ap) (an := an) (aq := aq) (al := al) (M := zM len at_ kep don see fit tx td ki kd pe sk wo sl sa wy be po mh go) hcu hq2.2 (i := a) (j := b) (by omega) (by omega) (n5 a (by omega)) (F5 _ (n5 a (by omega))) H6 (hpu _) (by rw [y2]; exact H6)
    have ee := fun C hC => e_judges (xs := xs) (L := L) (len := len) (at_ := at_) (kep := kep) (don := don) (see := see) (fit := fit) (tx := tx) (td := td) (ki := ki) (kd := kd) (pe := pe) (sk := sk) (wo := wo) (sl := sl) (sa := sa) (wy := wy) (be := be) (po := po) (mh := mh) (go := go) (C := C) hC q2 hdo n6 S5 (fun j hj => by rw [n3 j hj]; exact Nat.mod_lt _ (by decide)) ha hbb (s := 0) (by omega)
    rw [KW a ha] at ec
    have hbit := n3 b (by omega)
    obtain ⟨z1, z2, z3⟩ := zhb H6
    have hH := (z2 b (pe 0) hbb q2.2 n2).2
    have hH6 := Nat.lt_of_lt_of_le hH (Nat.le_trans (Nat.pow_le_pow_right (by decide) q2.2) (by decide) : 2 ^ pe 0 ≤ 64)
    have hbits : ∀ q, q < 6 → (zclr (dh 0) (2 ^ b)) / 2 ^ q % 2 = if q = b then 0 else dh 0 / 2 ^ q % 2 := fun q hq => (z1 b q (by omega) hq).2
    by_cases g : sl (6 + sl a) = 0 ∧ ¬ sl (12 + b) = 0
    · rw [if_pos (by refine ⟨g.1, ?_⟩; have := g.2; omega)] at ec
      have e2 := e_pardon (xs := xs) (L := L) (len := len) (at_ := at_) (kep := kep) (don := don) (see := see) (fit := fit) (tx := tx) (td := td) (ki := ki) (kd := kd) (pe := pe) (sk := sk) (wo := wo) (sl := sl) (sa := sa) (wy := wy) (be := be) (po := po) (mh := mh) (go := go) (C := zK tl tp tb cu tk tq tm tw tc tr tg tt ts tv (dn1) (va_up dh1 0 (zclr (dh1 0) (2 ^ b))) (dw1) (dk1) (de1) (dx1) (dt1) (ps1) (pd1) ks kq ss sc sn wm wb wr wp wt aw ak av ap an aq al) zK_len (ee _ zK_len) (by rw [if_pos g]; exact ⟨_, _, rfl⟩)
      rw [if_pos g] at e2
      refine zDo_mk ec e2 (mt_0 zK_len) ?_ (zRel_mk ⟨hcu, ⟨t1, t2, t3, t4⟩, R2, hv2, ?_, R4, R5⟩)
      · rw [y2, (zhb hH6).2.2 (pe 0) q2.2 hH]
        congr 1
        refine zsum_congr (fun q hq => ?_)
        rw [hbits q (by omega)]
        by_cases e : q = b
        · subst e; rw [if_pos rfl, va_up_self]
        · rw [if_neg e, va_up_ne _ _ (by omega), zkn_0 hdo (by omega), n3 q (by omega)]
      · refine zR3_go R3' q2.2 (fun d h0 h1 => ⟨rfl, va_up_ne _ _ h0, rfl, rfl, rfl, rfl, rfl⟩) (fun q h1 h2 => va_up_ne _ _ (by omega)) ⟨?_, R3'.1.2⟩
        simp only [va_up_self]
        exact zDR_h R3'.1.1 (by omega) q2.2 (by rw [y2]; exact hH) (by rw [y2]; exact hbits)
    · rw [if_neg (fun q => g ⟨q.1, by have := q.2; omega⟩)] at ec
      have e2 := e_pardon (xs := xs) (L := L) (len := len) (at_ := at_) (kep := kep) (don := don) (see := see) (fit := fit) (tx := tx) (td := td) (ki := ki) (kd := kd) (pe := pe) (sk := sk) (wo := wo) (sl := sl) (sa := sa) (wy := wy) (be := be) (po := po) (mh := mh) (go := go) (C := zK tl tp tb cu tk tq tm tw tc tr tg tt ts tv dn dh dw dk de dx dt ps pd ks kq ss sc sn wm wb wr wp wt aw ak av ap an aq al) zK_len (ee _ zK_len) (by rw [if_neg g]; exact ⟨_, _, rfl⟩)
      rw [if_neg g] at e2
      exact zDo_mk ec e2 (mt_0 zK_len) rfl (zRel_mk hR)
  · have e2 := e_pardon (xs := xs) (L := L) (len := len) (at_ := at_) (kep := kep) (don := don) (see := see) (fit := fit) (tx := tx) (td := td) (ki := ki) (kd := kd) (pe := pe) (sk := sk) (wo := wo) (sl := sl) (sa := sa) (wy := wy) (be := be) (po := po) (mh := mh) (go := go) (C := zK tl tp tb cu tk tq tm tw tc tr tg tt ts tv dn dh dw dk de dx dt ps pd ks kq ss sc sn wm wb wr wp wt aw ak av ap an aq al) zK_len (e_judges_bad zK_len q2 (v3 := nI 0) hb) ⟨_, _, rfl⟩
    exact zDo_mk (c_pardon_bad hcu hq2.2 (by rw [q1]; exact hb)) e2 (mt_0 zK_len) rfl (zRel_mk hR)
end
