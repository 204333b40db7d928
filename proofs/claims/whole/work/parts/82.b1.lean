/-! ===== both: plain calls ===== -/
theorem zin_9 {n : Int32} {a b : Nat} (h : (a : Int) ≤ n.toInt ∧ n.toInt ≤ b) (hb : b < 1000000) : ∃ m : Nat, a ≤ m ∧ m ≤ b ∧ n = nI m := by
  obtain ⟨m, h1, rfl⟩ := zin_of (n := b + 1) (i := n) ⟨by omega, by omega⟩ (by omega)
  rw [nI_toInt (by omega)] at h
  exact ⟨m, by omega, by omega, rfl⟩
section
variable {xs : Nat → Int32} {L : Nat} {tl tp : Nat} {tb : Nat → Nat} {cu : Nat} {tk tq tm : Nat → Nat} {tw : Nat → Int32} {tc : Nat → Nat} {tr tg tt ts tv : Nat → Nat → Nat} {dn dh : Nat → Nat} {dw dk de dx dt : Nat → Nat → Nat} {ps : Nat} {pd : Nat → Nat} {ks : Nat} {kq : Nat → Nat} {ss : Nat} {sc sn wm wb wr : Nat → Nat} {wp wt : Nat} {aw ak av ap an : Nat → Nat} {aq al : Nat}  {len at_ kep don see : Nat} {fit : Int32} {tx : Nat → Int32} {td ki kd pe sk wo sl sa wy be po mh : Nat → Nat} {go : Nat → Int32} 
theorem b_wipe (hR : zRR tl tp tb cu tk tq tm tw tc tr tg tt ts tv dn dh dw dk de dx dt ps pd ks kq ss sc sn wm wb wr wp wt aw ak av ap an aq al len at_ kep don see fit tx td ki kd pe sk wo sl sa wy be po mh go) : zDo xs L 60 [.ref 0, .null] 104 [.ref 104, .null] (zK tl tp tb cu tk tq tm tw tc tr tg tt ts tv dn dh dw dk de dx dt ps pd ks kq ss sc sn wm wb wr wp wt aw ak av ap an aq al ++ zM len at_ kep don see fit tx td ki kd pe sk wo sl sa wy be po mh go) := by
  obtain ⟨hcu, ⟨t1, t2, t3, t4⟩, R2, hv2, R3, R4, R5⟩ := id hR
  obtain ⟨k1, k2, q1, q2, w1, w2, c1, c2, r1, s1, v1, v2, v3⟩ := id R2
  obtain ⟨⟨⟨n1, n2, n3, n4, n5, n6, n7, n8, n9, n10⟩, n11⟩, p1, p2, p3, p4, p5, p6, p7, p8, p9⟩ := id R3
  simp only [Nat.mul_zero, Nat.zero_add] at n1 n3 n4 n6 n7 n8 n9 n10
  have hq2 : 1 ≤ tq cu ∧ tq cu ≤ 6 := by rw [q1]; exact q2
  have hk2 : tk cu ≤ 5 := by rw [k1]; exact k2.2
  have F5 : ∀ m, m < 6 → dk 0 m < 5 := fun m hm => by have := (n7 m hm).2; omega
  have S5 : ∀ m, m < 6 → sl (6 + m) < 5 := fun m hm => by have := n7 m hm; omega
  have H6 : dh 0 < 64 := Nat.lt_of_lt_of_le n2 (Nat.le_trans (Nat.pow_le_pow_right (by decide) q2.2) (by decide))
  have hl3 : len ≤ 300 := by omega
  have hdo : don ≤ 8 := by omega
  have KW : ∀ i, i < pe 0 → dk 0 (dw 0 i) = sl (6 + sl i) := fun i hi => by rw [(n7 _ (n5 i (by omega))).1, n4 i hi]
  exact zDo_mk c_wipe (e_wipe zK_len) (mt_0 zK_len) (by rw [t1]) (zRel_mk ⟨hcu, ⟨rfl, by omega, t3, fun j hj => by omega⟩, R2, hv2, R3, R4, R5⟩)
theorem b_write (hR : zRR tl tp tb cu tk tq tm tw tc tr tg tt ts tv dn dh dw dk de dx dt ps pd ks kq ss sc sn wm wb wr wp wt aw ak av ap an aq al len at_ kep don see fit tx td ki kd pe sk wo sl sa wy be po mh go) {n : Int32} {v : Int64} : zDo xs L 59 [.ref 0, .int n, .long v, .null] 103 [.ref 104, .int n, .long v, .null, .null] (zK tl tp tb cu tk tq tm tw tc tr tg tt ts tv dn dh dw dk de dx dt ps pd ks kq ss sc sn wm wb wr wp wt aw ak av ap an aq al ++ zM len at_ kep don see fit tx td ki kd pe sk wo sl sa wy be po mh go) := by
  obtain ⟨hcu, ⟨t1, t2, t3, t4⟩, R2, hv2, R3, R4, R5⟩ := id hR
  obtain ⟨k1, k2, q1, q2, w1, w2, c1, c2, r1, s1, v1, v2, v3⟩ := id R2
  obtain ⟨⟨⟨n1, n2, n3, n4, n5, n6, n7, n8, n9, n10⟩, n11⟩, p1, p2, p3, p4, p5, p6, p7, p8, p9⟩ := id R3
  simp only [Nat.mul_zero, Nat.zero_add] at n1 n3 n4 n6 n7 n8 n9 n10
  have hq2 : 1 ≤ tq cu ∧ tq cu ≤ 6 := by rw [q1]; exact q2
  have hk2 : tk cu ≤ 5 := by rw [k1]; exact k2.2
  have F5 : ∀ m, m < 6 → dk 0 m < 5 := fun m hm => by have := (n7 m hm).2; omega
  have S5 : ∀ m, m < 6 → sl (6 + m) < 5 := fun m hm => by have := n7 m hm; omega
  have H6 : dh 0 < 64 := Nat.lt_of_lt_of_le n2 (Nat.le_trans (Nat.pow_le_pow_right (by decide) q2.2) (by decide))
  have hl3 : len ≤ 300 := by omega
  have hdo : don ≤ 8 := by omega
  have KW : ∀ i, i < pe 0 → dk 0 (dw 0 i) = sl (6 + sl i) := fun i hi => by rw [(n7 _ (n5 i (by omega))).1, n4 i hi]
  by_cases hb : 1 ≤ n.toInt ∧ n.toInt ≤ 8
  · obtain ⟨m, m1, m2, rfl⟩ := zin_9 (a := 1) (b := 8) (by omega) (by omega)
    have ec := c_write (xs := xs) (L := L) (tl := tl) (tp := tp) (tb := tb) (cu := cu) (tk := tk) (tq := tq) (tm := tm) (tw := tw) (tc := tc) (tr := tr) (tg := tg) (tt := tt) (ts := ts) (tv := tv) (dn := dn) (dh := dh) (dw := dw) (dk := dk) (de := de) (dx := dx) (dt := dt) (ps := ps) (pd := pd) (ks := ks) (kq := kq) (ss := ss) (sc := sc) (sn := sn) (wm := wm) (wb := wb) (wr := wr) (wp := wp) (wt := wt) (aw := aw) (ak := ak) (av := av) (ap := ap) (an := an) (aq := aq) (al := al) (M := zM len at_ kep don see fit tx td ki kd pe sk wo sl sa wy be po mh go) (v := v) (n := m) ⟨m1, m2⟩ t2
    have ee := fun C hC => e_write (xs := xs) (L := L) (len := len) (at_ := at_) (kep := kep) (don := don) (see := see) (fit := fit) (tx := tx) (td := td) (ki := ki) (kd := kd) (pe := pe) (sk := sk) (wo := wo) (sl := sl) (sa := sa) (wy := wy) (be := be) (po := po) (mh := mh) (go := go) (C := C) hC (v := v) (n := m) ⟨m1, m2⟩ hl3
    by_cases g : 300 < tl + m
    · rw [if_pos g] at ec
      have e2 := ee (zK tl tp tb cu tk tq tm tw tc tr tg tt ts tv dn dh dw dk de dx dt ps pd ks kq ss sc sn wm wb wr wp wt aw ak av ap an aq al) zK_len
      rw [if_pos (by omega)] at e2
      exact zDo_mk ec e2 (mt_0 zK_len) rfl (zRel_mk hR)
    · rw [if_neg g] at ec
      have e2 := ee (zK (tl + m) tp (zwrB tb v tl m m) cu tk tq tm tw tc tr tg tt ts tv dn dh dw dk de dx dt ps pd ks kq ss sc sn wm wb wr wp wt aw ak av ap an aq al) zK_len
      rw [if_neg (by omega)] at e2
      refine zDo_mk ec e2 (mt_0 zK_len) (by rw [t1]) (zRel_mk ⟨hcu, ⟨by rw [t1], by omega, fun j => ?_, fun j hj => ?_⟩, R2, hv2, R3, R4, R5⟩)
      · unfold zwrB; split
        · exact zbyt_lt _ _
        · exact t3 j
      · unfold zwrB zwrT
        rw [t1]
        by_cases c : tl ≤ j ∧ j < tl + m
        · rw [if_pos c, if_pos c]
        · rw [if_neg c, if_neg c]; exact t4 j (by omega)
  · exact zDo_mk (c_write_bad hb) (e_write_bad hb) (mt_0 zK_len) rfl (zRel_mk hR)
theorem b_person (hR : zRR tl tp tb cu tk tq tm tw tc tr tg tt ts tv dn dh dw dk de dx dt ps pd ks kq ss sc sn wm wb wr wp wt aw ak av ap an aq al len at_ kep don see fit tx td ki kd pe sk wo sl sa wy be po mh go) {i w : Int32} : zDo xs L 63 [.ref 0, .int i, .int w] 117 [.ref 104, .int i, .int w] (zK tl tp tb cu tk tq tm tw tc tr tg tt ts tv dn dh dw dk de dx dt ps pd ks kq ss sc sn wm wb wr wp wt aw ak av ap an aq al ++ zM len at_ kep don see fit tx td ki kd pe sk wo sl sa wy be po mh go) := by
  obtain ⟨hcu, ⟨t1, t2, t3, t4⟩, R2, hv2, R3, R4, R5⟩ := id hR
  obtain ⟨k1, k2, q1, q2, w1, w2, c1, c2, r1, s1, v1, v2, v3⟩ := id R2
  obtain ⟨⟨⟨n1, n2, n3, n4, n5, n6, n7, n8, n9, n10⟩, n11⟩, p1, p2, p3, p4, p5, p6, p7, p8, p9⟩ := id R3
  simp only [Nat.mul_zero, Nat.zero_add] at n1 n3 n4 n6 n7 n8 n9 n10
  have hq2 : 1 ≤ tq cu ∧ tq cu ≤ 6 := by rw [q1]; exact q2
  have hk2 : tk cu ≤ 5 := by rw [k1]; exact k2.2
  have F5 : ∀ m, m < 6 → dk 0 m < 5 := fun m hm => by have := (n7 m hm).2; omega
  have S5 : ∀ m, m < 6 → sl (6 + m) < 5 := fun m hm => by have := n7 m hm; omega
  have H6 : dh 0 < 64 := Nat.lt_of_lt_of_le n2 (Nat.le_trans (Nat.pow_le_pow_right (by decide) q2.2) (by decide))
  have hl3 : len ≤ 300 := by omega
  have hdo : don ≤ 8 := by omega
  have KW : ∀ i, i < pe 0 → dk 0 (dw 0 i) = sl (6 + sl i) := fun i hi => by rw [(n7 _ (n5 i (by omega))).1, n4 i hi]
  by_cases hb : zin i (pe 0) ∧ 0 ≤ w.toInt ∧ w.toInt ≤ 5
  · obtain ⟨hi, hw⟩ := hb
    obtain ⟨a, ha, rfl⟩ := zin_of hi (by omega)
    obtain ⟨b, b1, b2, rfl⟩ := zin_9 (a := 0) (b := 5) (n := w) (by omega) (by omega)
    have hiq : a < tq cu := by omega
    refine zDo_mk (c_person hcu hq2.2 hiq (n5 a (by omega)) H6 (by omega)) (e_person zK_len q2 n6 ha (by omega)) (mt_0 zK_len) ?_ (zRel_mk hR)
    rw [(s1 a ha).1, KW a ha, n4 a ha, n8 a (by omega), n9 a (by omega), ← n3 a (by omega)]
  · exact zDo_mk (c_person_bad hcu hq2.2 (by rw [q1]; exact hb)) (e_person_bad zK_len q2 hb) (mt_0 zK_len) rfl (zRel_mk hR)
theorem b_had (hR : zRR tl tp tb cu tk tq tm tw tc tr tg tt ts tv dn dh dw dk de dx dt ps pd ks kq ss sc sn wm wb wr wp wt aw ak av ap an aq al len at_ kep don see fit tx td ki kd pe sk wo sl sa wy be po mh go) {i k : Int32} : zDo xs L 64 [.ref 0, .int i, .int k] 118 [.ref 104, .int i, .int k] (zK tl tp tb cu tk tq tm tw tc tr tg tt ts tv dn dh dw dk de dx dt ps pd ks kq ss sc sn wm wb wr wp wt aw ak av ap an aq al ++ zM len at_ kep don see fit tx td ki kd pe sk wo sl sa wy be po mh go) := by
  obtain ⟨hcu, ⟨t1, t2, t3, t4⟩, R2, hv2, R3, R4, R5⟩ := id hR
  obtain ⟨k1, k2, q1, q2, w1, w2, c1, c2, r1, s1, v1, v2, v3⟩ := id R2
  obtain ⟨⟨⟨n1, n2, n3, n4, n5, n6, n7, n8, n9, n10⟩, n11⟩, p1, p2, p3, p4, p5, p6, p7, p8, p9⟩ := id R3
  simp only [Nat.mul_zero, Nat.zero_add] at n1 n3 n4 n6 n7 n8 n9 n10
  have hq2 : 1 ≤ tq cu ∧ tq cu ≤ 6 := by rw [q1]; exact q2
  have hk2 : tk cu ≤ 5 := by rw [k1]; exact k2.2
  have F5 : ∀ m, m < 6 → dk 0 m < 5 := fun m hm => by have := (n7 m hm).2; omega
  have S5 : ∀ m, m < 6 → sl (6 + m) < 5 := fun m hm => by have := n7 m hm; omega
  have H6 : dh 0 < 64 := Nat.lt_of_lt_of_le n2 (Nat.le_trans (Nat.pow_le_pow_right (by decide) q2.2) (by decide))
  have hl3 : len ≤ 300 := by omega
  have hdo : don ≤ 8 := by omega
  have KW : ∀ i, i < pe 0 → dk 0 (dw 0 i) = sl (6 + sl i) := fun i hi => by rw [(n7 _ (n5 i (by omega))).1, n4 i hi]
  by_cases hb : zin i (pe 0) ∧ zin k (ki 0)
  · obtain ⟨hi, hw⟩ := hb
    obtain ⟨a, ha, rfl⟩ := zin_of hi (by omega)
    obtain ⟨b, hb2, rfl⟩ := zin_of hw (by omega)
    refine zDo_mk (c_had hcu hq2.2 hk2 (by omega) (by omega)) (e_had zK_len q2 k2 ha hb2) (mt_0 zK_len) ?_ (zRel_mk hR)
    rw [(n10 (5 * a + b) (by omega)).1, ← Nat.add_assoc]
  · exact zDo_mk (c_had_bad hcu hq2.2 hk2 (by rw [q1, k1]; exact hb)) (e_had_bad zK_len q2 k2 hb) (mt_0 zK_len) rfl (zRel_mk hR)
theorem b_mask (hR : zRR tl tp tb cu tk tq tm tw tc tr tg tt ts tv dn dh dw dk de dx dt ps pd ks kq ss sc sn wm wb wr wp wt aw ak av ap an aq al len at_ kep don see fit tx td ki kd pe sk wo sl sa wy be po mh go) {i w : Int32} : zDo xs L 65 [.ref 0, .int i, .int w, .null] 119 [.ref 104, .int i, .int w, .null] (zK tl tp tb cu tk tq tm tw tc tr tg tt ts tv dn dh dw dk de dx dt ps pd ks kq ss sc sn wm wb wr wp wt aw ak av ap an aq al ++ zM len at_ kep don see fit tx td ki kd pe sk wo sl sa wy be po mh go) := by
  obtain ⟨hcu, ⟨t1, t2, t3, t4⟩, R2, hv2, R3, R4, R5⟩ := id hR
  obtain ⟨k1, k2, q1, q2, w1, w2, c1, c2, r1, s1, v1, v2, v3⟩ := id R2
  obtain ⟨⟨⟨n1, n2, n3, n4, n5, n6, n7, n8, n9, n10⟩, n11⟩, p1, p2, p3, p4, p5, p6, p7, p8, p9⟩ := id R3
  simp only [Nat.mul_zero, Nat.zero_add] at n1 n3 n4 n6 n7 n8 n9 n10
  have hq2 : 1 ≤ tq cu ∧ tq cu ≤ 6 := by rw [q1]; exact q2
  have hk2 : tk cu ≤ 5 := by rw [k1]; exact k2.2
  have F5 : ∀ m, m < 6 → dk 0 m < 5 := fun m hm => by have := (n7 m hm).2; omega
  have S5 : ∀ m, m < 6 → sl (6 + m) < 5 := fun m hm => by have := n7 m hm; omega
  have H6 : dh 0 < 64 := Nat.lt_of_lt_of_le n2 (Nat.le_trans (Nat.pow_le_pow_right (by decide) q2.2) (by decide))
  have hl3 : len ≤ 300 := by omega
  have hdo : don ≤ 8 := by omega
  have KW : ∀ i, i < pe 0 → dk 0 (dw 0 i) = sl (6 + sl i) := fun i hi => by rw [(n7 _ (n5 i (by omega))).1, n4 i hi]
  by_cases hb : zin i (pe 0) ∧ 0 ≤ w.toInt ∧ w.toInt ≤ 2
  · obtain ⟨hi, hw⟩ := hb
    obtain ⟨a, ha, rfl⟩ := zin_of hi (by omega)
    obtain ⟨b, b1, b2, rfl⟩ := zin_9 (a := 0) (b := 2) (n := w) (by omega) (by omega)
    refine zDo_mk (c_mask hcu hq2.2 (by omega) (F5 a (by omega)) (by omega)) (e_mask zK_len q2 S5 ha (by omega)) (mt_0 zK_len) ?_ (zRel_mk hR)
    obtain ⟨y1, y2⟩ := n7 a (by omega)
    obtain ⟨z1, z2, z3, z4⟩ := r1 _ y2
    rw [z1, z2, y1]
  · exact zDo_mk (c_mask_bad hcu hq2.2 (by rw [q1]; exact hb)) (e_mask_bad zK_len q2 hb) (mt_0 zK_len) rfl (zRel_mk hR)
theorem b_undo (hR : zRR tl tp tb cu tk tq tm tw tc tr tg tt ts tv dn dh dw dk de dx dt ps pd ks kq ss sc sn wm wb wr wp wt aw ak av ap an aq al len at_ kep don see fit tx td ki kd pe sk wo sl sa wy be po mh go) : zDo xs L 71 [.ref 0] 133 [.ref 104] (zK tl tp tb cu tk tq tm tw tc tr tg tt ts tv dn dh dw dk de dx dt ps pd ks kq ss sc sn wm wb wr wp wt aw ak av ap an aq al ++ zM len at_ kep don see fit tx td ki kd pe sk wo sl sa wy be po mh go) := by
  obtain ⟨hcu, ⟨t1, t2, t3, t4⟩, R2, hv2, R3, R4, R5⟩ := id hR
  obtain ⟨k1, k2, q1, q2, w1, w2, c1, c2, r1, s1, v1, v2, v3⟩ := id R2
  obtain ⟨⟨⟨n1, n2, n3, n4, n5, n6, n7, n8, n9, n10⟩, n11⟩, p1, p2, p3, p4, p5, p6, p7, p8, p9⟩ := id R3
  simp only [Nat.mul_zero, Nat.zero_add] at n1 n3 n4 n6 n7 n8 n9 n10
  have hq2 : 1 ≤ tq cu ∧ tq cu ≤ 6 := by rw [q1]; exact q2
  have hk2 : tk cu ≤ 5 := by rw [k1]; exact k2.2
  have F5 : ∀ m, m < 6 → dk 0 m < 5 := fun m hm => by have := (n7 m hm).2; omega
  have S5 : ∀ m, m < 6 → sl (6 + m) < 5 := fun m hm => by have := n7 m hm; omega
  have H6 : dh 0 < 64 := Nat.lt_of_lt_of_le n2 (Nat.le_trans (Nat.pow_le_pow_right (by decide) q2.2) (by decide))
  have hl3 : len ≤ 300 := by omega
  have hdo : don ≤ 8 := by omega
  have KW : ∀ i, i < pe 0 → dk 0 (dw 0 i) = sl (6 + sl i) := fun i hi => by rw [(n7 _ (n5 i (by omega))).1, n4 i hi]
  have ec := c_undo (xs := xs) (L := L) (tl := tl) (tp := tp) (tb := tb) (cu := cu) (tk := tk) (tq := tq) (tm := tm) (tw := tw) (tc := tc) (tr := tr) (tg := tg) (tt := tt) (ts := ts) (tv := tv) (dn := dn) (dh := dh) (dw := dw) (dk := dk) (de := de) (dx := dx) (dt := dt) (ps := ps) (pd := pd) (ks := ks) (kq := kq) (ss := ss) (sc := sc) (sn := sn) (wm := wm) (wb := wb) (wr := wr) (wp := wp) (wt := wt) (aw := aw) (ak := ak) (av := av) (ap := ap) (an := an) (aq := aq) (al := al) (M := zM len at_ kep don see fit tx td ki kd pe sk wo sl sa wy be po mh go) p2 (fun j hj => by have := p3 j hj; omega)
  have ee := fun C hC => e_undo (xs := xs) (L := L) (len := len) (at_ := at_) (kep := kep) (don := don) (see := see) (fit := fit) (tx := tx) (td := td) (ki := ki) (kd := kd) (pe := pe) (sk := sk) (wo := wo) (sl := sl) (sa := sa) (wy := wy) (be := be) (po := po) (mh := mh) (go := go) (C := C) hC hdo
  by_cases g : ps = 0
  · rw [if_pos g] at ec
    have e2 := ee (zK tl tp tb cu tk tq tm tw tc tr tg tt ts tv dn dh dw dk de dx dt ps pd ks kq ss sc sn wm wb wr wp wt aw ak av ap an aq al) zK_len
    rw [if_pos (by omega)] at e2
    exact zDo_mk ec e2 (mt_0 zK_len) rfl (zRel_mk hR)
  · rw [if_neg g] at ec
    have e2 := ee (zK tl tp tb cu tk tq tm tw tc tr tg tt ts tv (va_up dn (0) (dn (pd (ps - 1)))) (va_up dh (0) (dh (pd (ps - 1)))) (va_up dw (0) (dw (pd (ps - 1)))) (va_up dk (0) (dk (pd (ps - 1)))) (va_up de (0) (de (pd (ps - 1)))) (va_up dx (0) (dx (pd (ps - 1)))) (va_up dt (0) (dt (pd (ps - 1)))) (ps - 1) pd ks kq ss sc sn wm wb wr wp wt aw ak av ap an aq al) zK_len
    rw [if_neg (by omega)] at e2
    exact zDo_mk ec e2 (mt_0 zK_len) (by rw [p1]) (zRel_mk ⟨hcu, ⟨t1, t2, t3, t4⟩, R2, hv2, zR3_undo R3 q2.2 g, R4, R5⟩)
theorem b_keep (hR : zRR tl tp tb cu tk tq tm tw tc tr tg tt ts tv dn dh dw dk de dx dt ps pd ks kq ss sc sn wm wb wr wp wt aw ak av ap an aq al len at_ kep don see fit tx td ki kd pe sk wo sl sa wy be po mh go) : zDo xs L 85 [.ref 0] 155 [.ref 104] (zK tl tp tb cu tk tq tm tw tc tr tg tt ts tv dn dh dw dk de dx dt ps pd ks kq ss sc sn wm wb wr wp wt aw ak av ap an aq al ++ zM len at_ kep don see fit tx td ki kd pe sk wo sl sa wy be po mh go) := by
  obtain ⟨hcu, ⟨t1, t2, t3, t4⟩, R2, hv2, R3, R4, R5⟩ := id hR
  obtain ⟨k1, k2, q1, q2, w1, w2, c1, c2, r1, s1, v1, v2, v3⟩ := id R2
  obtain ⟨⟨⟨n1, n2, n3, n4, n5, n6, n7, n8, n9, n10⟩, n11⟩, p1, p2, p3, p4, p5, p6, p7, p8, p9⟩ := id R3
  simp only [Nat.mul_zero, Nat.zero_add] at n1 n3 n4 n6 n7 n8 n9 n10
  have hq2 : 1 ≤ tq cu ∧ tq cu ≤ 6 := by rw [q1]; exact q2
  have hk2 : tk cu ≤ 5 := by rw [k1]; exact k2.2
  have F5 : ∀ m, m < 6 → dk 0 m < 5 := fun m hm => by have := (n7 m hm).2; omega
  have S5 : ∀ m, m < 6 → sl (6 + m) < 5 := fun m hm => by have := n7 m hm; omega
  have H6 : dh 0 < 64 := Nat.lt_of_lt_of_le n2 (Nat.le_trans (Nat.pow_le_pow_right (by decide) q2.2) (by decide))
  have hl3 : len ≤ 300 := by omega
  have hdo : don ≤ 8 := by omega
  have KW : ∀ i, i < pe 0 → dk 0 (dw 0 i) = sl (6 + sl i) := fun i hi => by rw [(n7 _ (n5 i (by omega))).1, n4 i hi]
  have ec := c_keep (xs := xs) (L := L) (tl := tl) (tp := tp) (tb := tb) (cu := cu) (tk := tk) (tq := tq) (tm := tm) (tw := tw) (tc := tc) (tr := tr) (tg := tg) (tt := tt) (ts := ts) (tv := tv) (dn := dn) (dh := dh) (dw := dw) (dk := dk) (de := de) (dx := dx) (dt := dt) (ps := ps) (pd := pd) (ks := ks) (kq := kq) (ss := ss) (sc := sc) (sn := sn) (wm := wm) (wb := wb) (wr := wr) (wp := wp) (wt := wt) (aw := aw) (ak := ak) (av := av) (ap := ap) (an := an) (aq := aq) (al := al) (M := zM len at_ kep don see fit tx td ki kd pe sk wo sl sa wy be po mh go) p7 (fun j hj => by have := p8 j hj; omega)
  have ee := fun C hC => e_keep (xs := xs) (L := L) (len := len) (at_ := at_) (kep := kep) (don := don) (see := see) (fit := fit) (tx := tx) (td := td) (ki := ki) (kd := kd) (pe := pe) (sk := sk) (wo := wo) (sl := sl) (sa := sa) (wy := wy) (be := be) (po := po) (mh := mh) (go := go) (C := C) hC (by omega)
  by_cases g : ks = 2
  · rw [if_pos g] at ec
    have e2 := ee (zK tl tp tb cu tk tq tm tw tc tr tg tt ts tv dn dh dw dk de dx dt ps pd ks kq ss sc sn wm wb wr wp wt aw ak av ap an aq al) zK_len
    rw [if_pos (by omega)] at e2
    exact zDo_mk ec e2 (mt_0 zK_len) rfl (zRel_mk hR)
  · rw [if_neg g] at ec
    have e2 := ee (zK tl tp tb cu tk tq tm tw tc tr tg tt ts tv (va_up dn (kq ks) (dn (0))) (va_up dh (kq ks) (dh (0))) (va_up dw (kq ks) (dw (0))) (va_up dk (kq ks) (dk (0))) (va_up de (kq ks) (de (0))) (va_up dx (kq ks) (dx (0))) (va_up dt (kq ks) (dt (0))) ps pd (ks + 1) kq ss sc sn wm wb wr wp wt aw ak av ap an aq al) zK_len
    rw [if_neg (by omega)] at e2
    exact zDo_mk ec e2 (mt_0 zK_len) (by rw [p6]) (zRel_mk ⟨hcu, ⟨t1, t2, t3, t4⟩, R2, hv2, zR3_keep R3 q2.2 g, R4, R5⟩)
theorem b_back (hR : zRR tl tp tb cu tk tq tm tw tc tr tg tt ts tv dn dh dw dk de dx dt ps pd ks kq ss sc sn wm wb wr wp wt aw ak av ap an aq al len at_ kep don see fit tx td ki kd pe sk wo sl sa wy be po mh go) : zDo xs L 86 [.ref 0] 156 [.ref 104] (zK tl tp tb cu tk tq tm tw tc tr tg tt ts tv dn dh dw dk de dx dt ps pd ks kq ss sc sn wm wb wr wp wt aw ak av ap an aq al ++ zM len at_ kep don see fit tx td ki kd pe sk wo sl sa wy be po mh go) := by
  obtain ⟨hcu, ⟨t1, t2, t3, t4⟩, R2, hv2, R3, R4, R5⟩ := id hR
  obtain ⟨k1, k2, q1, q2, w1, w2, c1, c2, r1, s1, v1, v2, v3⟩ := id R2
  obtain ⟨⟨⟨n1, n2, n3, n4, n5, n6, n7, n8, n9, n10⟩, n11⟩, p1, p2, p3, p4, p5, p6, p7, p8, p9⟩ := id R3
  simp only [Nat.mul_zero, Nat.zero_add] at n1 n3 n4 n6 n7 n8 n9 n10
  have hq2 : 1 ≤ tq cu ∧ tq cu ≤ 6 := by rw [q1]; exact q2
  have hk2 : tk cu ≤ 5 := by rw [k1]; exact k2.2
  have F5 : ∀ m, m < 6 → dk 0 m < 5 := fun m hm => by have := (n7 m hm).2; omega
  have S5 : ∀ m, m < 6 → sl (6 + m) < 5 := fun m hm => by have := n7 m hm; omega
  have H6 : dh 0 < 64 := Nat.lt_of_lt_of_le n2 (Nat.le_trans (Nat.pow_le_pow_right (by decide) q2.2) (by decide))
  have hl3 : len ≤ 300 := by omega
  have hdo : don ≤ 8 := by omega
  have KW : ∀ i, i < pe 0 → dk 0 (dw 0 i) = sl (6 + sl i) := fun i hi => by rw [(n7 _ (n5 i (by omega))).1, n4 i hi]
  have ec := c_back (xs := xs) (L := L) (tl := tl) (tp := tp) (tb := tb) (cu := cu) (tk := tk) (tq := tq) (tm := tm) (tw := tw) (tc := tc) (tr := tr) (tg := tg) (tt := tt) (ts := ts) (tv := tv) (dn := dn) (dh := dh) (dw := dw) (dk := dk) (de := de) (dx := dx) (dt := dt) (ps := ps) (pd := pd) (ks := ks) (kq := kq) (ss := ss) (sc := sc) (sn := sn) (wm := wm) (wb := wb) (wr := wr) (wp := wp) (wt := wt) (aw := aw) (ak := ak) (av := av) (ap := ap) (an := an) (aq := aq) (al := al) (M := zM len at_ kep don see fit tx td ki kd pe sk wo sl sa wy be po mh go) p7 (fun j hj => by have := p8 j hj; omega)
  have ee := fun C hC => e_back (xs := xs) (L := L) (len := len) (at_ := at_) (kep := kep) (don := don) (see := see) (fit := fit) (tx := tx) (td := td) (ki := ki) (kd := kd) (pe := pe) (sk := sk) (wo := wo) (sl := sl) (sa := sa) (wy := wy) (be := be) (po := po) (mh := mh) (go := go) (C := C) hC (by omega)
  by_cases g : ks = 0
  · rw [if_pos g] at ec
    have e2 := ee (zK tl tp tb cu tk tq tm tw tc tr tg tt ts tv dn dh dw dk de dx dt ps pd ks kq ss sc sn wm wb wr wp wt aw ak av ap an aq al) zK_len
    rw [if_pos (by omega)] at e2
    exact zDo_mk ec e2 (mt_0 zK_len) rfl (zRel_mk hR)
  · rw [if_neg g] at ec
    have e2 := ee (zK tl tp tb cu tk tq tm tw tc tr tg tt ts tv (va_up dn (0) (dn (kq (ks - 1)))) (va_up dh (0) (dh (kq (ks - 1)))) (va_up dw (0) (dw (kq (ks - 1)))) (va_up dk (0) (dk (kq (ks - 1)))) (va_up de (0) (de (kq (ks - 1)))) (va_up dx (0) (dx (kq (ks - 1)))) (va_up dt (0) (dt (kq (ks - 1)))) (0) pd (ks - 1) kq ss sc sn wm wb wr wp wt aw ak av ap an aq al) zK_len
    rw [if_neg (by omega)] at e2
    exact zDo_mk ec e2 (mt_0 zK_len) (by rw [p6]) (zRel_mk ⟨hcu, ⟨t1, t2, t3, t4⟩, R2, hv2, zR3_back R3 q2.2 g, R4, R5⟩)
theorem b_forget (hR : zRR tl tp tb cu tk tq tm tw tc tr tg tt ts tv dn dh dw dk de dx dt ps pd ks kq ss sc sn wm wb wr wp wt aw ak av ap an aq al len at_ kep don see fit tx td ki kd pe sk wo sl sa wy be po mh go) : zDo xs L 78 [.ref 0, .null] 147 [.ref 104, .null] (zK tl tp tb cu tk tq tm tw tc tr tg tt ts tv dn dh dw dk de dx dt ps pd ks kq ss sc sn wm wb wr wp wt aw ak av ap an aq al ++ zM len at_ kep don see fit tx td ki kd pe sk wo sl sa wy be po mh go) := by
  obtain ⟨hcu, ⟨t1, t2, t3, t4⟩, R2, hv2, R3, R4, R5⟩ := id hR
  obtain ⟨k1, k2, q1, q2, w1, w2, c1, c2, r1, s1, v1, v2, v3⟩ := id R2
  obtain ⟨⟨⟨n1, n2, n3, n4, n5, n6, n7, n8, n9, n10⟩, n11⟩, p1, p2, p3, p4, p5, p6, p7, p8, p9⟩ := id R3
  simp only [Nat.mul_zero, Nat.zero_add] at n1 n3 n4 n6 n7 n8 n9 n10
  have hq2 : 1 ≤ tq cu ∧ tq cu ≤ 6 := by rw [q1]; exact q2
  have hk2 : tk cu ≤ 5 := by rw [k1]; exact k2.2
  have F5 : ∀ m, m < 6 → dk 0 m < 5 := fun m hm => by have := (n7 m hm).2; omega
  have S5 : ∀ m, m < 6 → sl (6 + m) < 5 := fun m hm => by have := n7 m hm; omega
  have H6 : dh 0 < 64 := Nat.lt_of_lt_of_le n2 (Nat.le_trans (Nat.pow_le_pow_right (by decide) q2.2) (by decide))
  have hl3 : len ≤ 300 := by omega
  have hdo : don ≤ 8 := by omega
  have KW : ∀ i, i < pe 0 → dk 0 (dw 0 i) = sl (6 + sl i) := fun i hi => by rw [(n7 _ (n5 i (by omega))).1, n4 i hi]
  obtain ⟨y1, y2, y3, y4, y5⟩ := id R4
  refine zDo_mk c_forget (e_forget zK_len) (mt_0 zK_len) (by rw [y1]) (zRel_mk ⟨hcu, ⟨t1, t2, t3, t4⟩, R2, hv2, R3, ⟨rfl, by omega, fun i hi => ?_, fun k hk => by omega, fun i hi x hx => ?_⟩, R5⟩)
  · rw [zupto_lt hi, zupto_lt hi]; exact ⟨by omega, by omega⟩
  · rw [zupto_lt hi, zupto_lt hi]
    simp only [Nat.and_zero, and_self, true_iff]
    intro k hk; omega
theorem b_count (hR : zRR tl tp tb cu tk tq tm tw tc tr tg tt ts tv dn dh dw dk de dx dt ps pd ks kq ss sc sn wm wb wr wp wt aw ak av ap an aq al len at_ kep don see fit tx td ki kd pe sk wo sl sa wy be po mh go) {w : Int32} : zDo xs L 87 [.ref 0, .int w] 157 [.ref 104, .int w] (zK tl tp tb cu tk tq tm tw tc tr tg tt ts tv dn dh dw dk de dx dt ps pd ks kq ss sc sn wm wb wr wp wt aw ak av ap an aq al ++ zM len at_ kep don see fit tx td ki kd pe sk wo sl sa wy be po mh go) := by
  obtain ⟨hcu, ⟨t1, t2, t3, t4⟩, R2, hv2, R3, R4, R5⟩ := id hR
  obtain ⟨k1, k2, q1, q2, w1, w2, c1, c2, r1, s1, v1, v2, v3⟩ := id R2
  obtain ⟨⟨⟨n1, n2, n3, n4, n5, n6, n7, n8, n9, n10⟩, n11⟩, p1, p2, p3, p4, p5, p6, p7, p8, p9⟩ := id R3
  simp only [Nat.mul_zero, Nat.zero_add] at n1 n3 n4 n6 n7 n8 n9 n10
  have hq2 : 1 ≤ tq cu ∧ tq cu ≤ 6 := by rw [q1]; exact q2
  have hk2 : tk cu ≤ 5 := by rw [k1]; exact k2.2
  have F5 : ∀ m, m < 6 → dk 0 m < 5 := fun m hm => by have := (n7 m hm).2; omega
  have S5 : ∀ m, m < 6 → sl (6 + m) < 5 := fun m hm => by have := n7 m hm; omega
  have H6 : dh 0 < 64 := Nat.lt_of_lt_of_le n2 (Nat.le_trans (Nat.pow_le_pow_right (by decide) q2.2) (by decide))
  have hl3 : len ≤ 300 := by omega
  have hdo : don ≤ 8 := by omega
  have KW : ∀ i, i < pe 0 → dk 0 (dw 0 i) = sl (6 + sl i) := fun i hi => by rw [(n7 _ (n5 i (by omega))).1, n4 i hi]
  obtain ⟨y1, y2, y3, y4, y5⟩ := id R4
  by_cases hb : 0 ≤ w.toInt ∧ w.toInt ≤ 7
  · obtain ⟨b, b1, b2, rfl⟩ := zin_9 (a := 0) (b := 7) (n := w) (by omega) (by omega)
    refine zDo_mk (c_count hcu H6 (by omega)) (e_count zK_len q2.2 (by omega)) (mt_0 zK_len) ?_ (zRel_mk hR)
    have e3 : zbc (dh 0) = zsum (fun i => sl (12 + i)) (pe 0) := by
      rw [(zhb H6).2.2 (pe 0) q2.2 n2]
      exact zsum_congr (fun i hi => (n3 i (by omega)).symm)
    rw [e3, q1, k1, n1, y1, p1, p6, t1]
  · have hb2 : w.toInt < 0 ∨ 7 < w.toInt := by omega
    exact zDo_mk (c_count_bad hb2) (e_count_bad hb2) (mt_0 zK_len) rfl (zRel_mk hR)
theorem b_seen (hR : zRR tl tp tb cu tk tq tm tw tc tr tg tt ts tv dn dh dw dk de dx dt ps pd ks kq ss sc sn wm wb wr wp wt aw ak av ap an aq al len at_ kep don see fit tx td ki kd pe sk wo sl sa wy be po mh go) {i d y : Int32} : zDo xs L 77 [.ref 0, .int i, .int d, .int y] 146 [.ref 104, .int i, .int d, .int y] (zK tl tp tb cu tk tq tm tw tc tr tg tt ts tv dn dh dw dk de dx dt ps pd ks kq ss sc sn wm wb wr wp wt aw ak av ap an aq al ++ zM len at_ kep don see fit tx td ki kd pe sk wo sl sa wy be po mh go) := by
  obtain ⟨hcu, ⟨t1, t2, t3, t4⟩, R2, hv2, R3, R4, R5⟩ := id hR
  obtain ⟨k1, k2, q1, q2, w1, w2, c1, c2, r1, s1, v1, v2, v3⟩ := id R2
  obtain ⟨⟨⟨n1, n2, n3, n4, n5, n6, n7, n8, n9, n10⟩, n11⟩, p1, p2, p3, p4, p5, p6, p7, p8, p9⟩ := id R3
  simp only [Nat.mul_zero, Nat.zero_add] at n1 n3 n4 n6 n7 n8 n9 n10
  have hq2 : 1 ≤ tq cu ∧ tq cu ≤ 6 := by rw [q1]; exact q2
  have hk2 : tk cu ≤ 5 := by rw [k1]; exact k2.2
  have F5 : ∀ m, m < 6 → dk 0 m < 5 := fun m hm => by have := (n7 m hm).2; omega
  have S5 : ∀ m, m < 6 → sl (6 + m) < 5 := fun m hm => by have := n7 m hm; omega
  have H6 : dh 0 < 64 := Nat.lt_of_lt_of_le n2 (Nat.le_trans (Nat.pow_le_pow_right (by decide) q2.2) (by decide))
  have hl3 : len ≤ 300 := by omega
  have hdo : don ≤ 8 := by omega
  have KW : ∀ i, i < pe 0 → dk 0 (dw 0 i) = sl (6 + sl i) := fun i hi => by rw [(n7 _ (n5 i (by omega))).1, n4 i hi]
  obtain ⟨y1, y2, y3, y4, y5⟩ := id R4
  by_cases hb : zin i (pe 0) ∧ 0 ≤ d.toInt ∧ d.toInt ≤ 5
  · obtain ⟨hi, hw⟩ := hb
    obtain ⟨a, ha, rfl⟩ := zin_of hi (by omega)
    obtain ⟨b, b1, b2, rfl⟩ := zin_9 (a := 0) (b := 5) (n := d) (by omega) (by omega)
    obtain ⟨z1, z2⟩ := y3 a (by omega)
    have ec := c_seen (xs := xs) (L := L) (tl := tl) (tp := tp) (tb := tb) (cu := cu) (tk := tk) (tq := tq) (tm := tm) (tw := tw) (tc := tc) (tr := tr) (tg := tg) (tt := tt) (ts := ts) (tv := tv) (dn := dn) (dh := dh) (dw := dw) (dk := dk) (de := de) (dx := dx) (dt := dt) (ps := ps) (pd := pd) (ks := ks) (kq := kq) (ss := ss) (sc := sc) (sn := sn) (wm := wm) (wb := wb) (wr := wr) (wp := wp) (wt := wt) (aw := aw) (ak := ak) (av := av) (ap := ap) (an := an) (aq := aq) (al := al) (M := zM len at_ kep don see fit tx td ki kd pe sk wo sl sa wy be po mh go) hcu hq2.2 (i := a) (d := b) (by omega) (by omega) (by omega) z1 z2 (y := y)
    have ee := fun C hC => e_seen (xs := xs) (L := L) (len := len) (at_ := at_) (kep := kep) (don := don) (see := see) (fit := fit) (tx := tx) (td := td) (ki := ki) (kd := kd) (pe := pe) (sk := sk) (wo := wo) (sl := sl) (sa := sa) (wy := wy) (be := be) (po := po) (mh := mh) (go := go) (C := C) hC q2 y2 ha (show b < 6 by omega) (z := y)
    have hb6 : (2 : Nat) ^ b < 2 ^ 6 := Nat.pow_lt_pow_right (by decide) (by omega)
    by_cases g : ss = 10
    · rw [if_pos g] at ec
      have e2 := ee (zK tl tp tb cu tk tq tm tw tc tr tg tt ts tv dn dh dw dk de dx dt ps pd ks kq ss sc sn wm wb wr wp wt aw ak av ap an aq al) zK_len
      rw [if_pos (by omega)] at e2
      exact zDo_mk ec e2 (mt_0 zK_len) rfl (zRel_mk hR)
    · rw [if_neg g] at ec
      have old : ∀ k, k < 3 * see → ∀ c, va_up (va_up (va_up sa (3 * see) a) (3 * see + 1) b) (3 * see + 2) c k = sa k := fun k hk c => by rw [va_up_ne _ _ (by omega), va_up_ne _ _ (by omega), va_up_ne _ _ (by omega)]
      have new0 : ∀ c, va_up (va_up (va_up sa (3 * see) a) (3 * see + 1) b) (3 * see + 2) c (3 * see) = a := fun c => by rw [va_up_ne _ _ (by omega), va_up_ne _ _ (by omega), va_up_self]
      have new1 : ∀ c, va_up (va_up (va_up sa (3 * see) a) (3 * see + 1) b) (3 * see + 2) c (3 * see + 1) = b := fun c => by rw [va_up_ne _ _ (by omega), va_up_self]
      have new2 : ∀ c, va_up (va_up (va_up sa (3 * see) a) (3 * see + 1) b) (3 * see + 2) c (3 * see + 2) = c := fun c => va_up_self _ _ _
      have hsa : ∀ c, c < 2 → ∀ k, k < see + 1 → va_up (va_up (va_up sa (3 * see) a) (3 * see + 1) b) (3 * see + 2) c (3 * k) < pe 0 ∧ va_up (va_up (va_up sa (3 * see) a) (3 * see + 1) b) (3 * see + 2) c (3 * k + 1) < 6 ∧ va_up (va_up (va_up sa (3 * see) a) (3 * see + 1) b) (3 * see + 2) c (3 * k + 2) < 2 := by
        intro c hc k hk
        by_cases e : k = see
        · subst e; rw [new0, new1, new2]; exact ⟨ha, by omega, hc⟩
        · rw [old _ (by omega), old _ (by omega), old _ (by omega)]; exact y4 k (by omega)
      have spl : ∀ c i x, (∀ k, k < see + 1 → va_up (va_up (va_up sa (3 * see) a) (3 * see + 1) b) (3 * see + 2) c (3 * k) = i → ((¬ x &&& 2 ^ va_up (va_up (va_up sa (3 * see) a) (3 * see + 1) b) (3 * see + 2) c (3 * k + 1) = 0) ↔ va_up (va_up (va_up sa (3 * see) a) (3 * see + 1) b) (3 * see + 2) c (3 * k + 2) = 1)) ↔ ((∀ k, k < see → sa (3 * k) = i → ((¬ x &&& 2 ^ sa (3 * k + 1) = 0) ↔ sa (3 * k + 2) = 1)) ∧ (a = i → ((¬ x &&& 2 ^ b = 0) ↔ c = 1))) := by
        intro c i x
        constructor
        · intro h
          refine ⟨fun k hk => ?_, ?_⟩
          · have := h k (by omega)
            rw [old _ (by omega), old _ (by omega), old _ (by omega)] at this
            exact this
          · have := h see (by omega)
            rw [new0, new1, new2] at this
            exact this
        · intro ⟨h1, h2⟩ k hk
          by_cases e : k = see
          · subst e; rw [new0, new1, new2]; exact h2
          · rw [old _ (by omega), old _ (by omega), old _ (by omega)]; exact h1 k (by omega)
      by_cases g2 : y = 0
      · rw [if_pos g2] at ec
        have e2 := ee (zK tl tp tb cu tk tq tm tw tc tr tg tt ts tv dn dh dw dk de dx dt ps pd ks kq (ss + 1) sc (va_up sn a (sn a ||| 2 ^ b)) wm wb wr wp wt aw ak av ap an aq al) zK_len
        rw [if_neg (by omega), if_pos g2] at e2
        refine zDo_mk ec e2 (mt_0 zK_len) (by rw [y1]) (zRel_mk ⟨hcu, ⟨t1, t2, t3, t4⟩, R2, hv2, R3, ⟨by rw [y1], by omega, fun i hi => ?_, hsa 0 (by omega), fun i hi x hx => ?_⟩, R5⟩)
        · refine ⟨(y3 i hi).1, ?_⟩
          by_cases e : i = a
          · subst e; rw [va_up_self]; exact Nat.or_lt_two_pow (n := 6) z2 hb6
          · rw [va_up_ne _ _ e]; exact (y3 i hi).2
        · rw [spl, ← y5 i hi x hx]
          by_cases e : i = a
          · subst e
            rw [va_up_self, (zsb hx z2 (show b < 6 by omega)).2]
            constructor
            · intro ⟨h1, h2, h3⟩; exact ⟨⟨h1, h2⟩, fun _ => ⟨fun q => absurd h3 q, fun q => by omega⟩⟩
            · intro ⟨⟨h1, h2⟩, h3⟩
              refine ⟨h1, h2, ?_⟩
              by_cases q : x &&& 2 ^ b = 0
              · exact q
              · have := (h3 rfl).mp q; omega
          · rw [va_up_ne _ _ e]
            constructor
            · intro h; exact ⟨h, fun q => absurd q.symm e⟩
            · intro h; exact h.1
      · rw [if_neg g2] at ec
        have e2 := ee (zK tl tp tb cu tk tq tm tw tc tr tg tt ts tv dn dh dw dk de dx dt ps pd ks kq (ss + 1) (va_up sc a (sc a ||| 2 ^ b)) sn wm wb wr wp wt aw ak av ap an aq al) zK_len
        rw [if_neg (by omega), if_neg g2] at e2
        refine zDo_mk ec e2 (mt_0 zK_len) (by rw [y1]) (zRel_mk ⟨hcu, ⟨t1, t2, t3, t4⟩, R2, hv2, R3, ⟨by rw [y1], by omega, fun i hi => ?_, hsa 1 (by omega), fun i hi x hx => ?_⟩, R5⟩)
        · refine ⟨?_, (y3 i hi).2⟩
          by_cases e : i = a
          · subst e; rw [va_up_self]; exact Nat.or_lt_two_pow (n := 6) z1 hb6
          · rw [va_up_ne _ _ e]; exact (y3 i hi).1
        · rw [spl, ← y5 i hi x hx]
          by_cases e : i = a
          · subst e
            rw [va_up_self, (zsb hx z1 (show b < 6 by omega)).1]
            constructor
            · intro ⟨⟨h1, h3⟩, h2⟩; exact ⟨⟨h1, h2⟩, fun _ => ⟨fun _ => rfl, fun _ => h3⟩⟩
            · intro ⟨⟨h1, h2⟩, h3⟩
              exact ⟨⟨h1, (h3 rfl).mpr rfl⟩, h2⟩
          · rw [va_up_ne _ _ e]
            constructor
            · intro h; exact ⟨h, fun q => absurd q.symm e⟩
            · intro h; exact h.1
  · have hb' : ¬ (zin i (tq cu) ∧ zin d 6) := by
      rw [q1]; intro q; exact hb ⟨q.1, q.2.1, by have := q.2.2; omega⟩
    exact zDo_mk (c_seen_bad hcu hq2.2 hb') (e_seen_bad zK_len q2 hb) (mt_0 zK_len) rfl (zRel_mk hR)
end
