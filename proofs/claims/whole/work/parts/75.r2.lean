/-! ===== both: a whole text ===== -/
theorem zKLv_up {D : Nat} {tk tq tm : Nat → Nat} {tw : Nat → Int32} {tc : Nat → Nat} {tr tg tt ts tv : Nat → Nat → Nat} {k q m : Nat} {w : Int32} {c : Nat} {r g o s v : Nat → Nat} : zKLv D tk tq tm tw tc tr tg tt ts tv (va_up tk D k) (va_up tq D q) (va_up tm D m) (va_up tw D w) (va_up tc D c) (va_up tr D r) (va_up tg D g) (va_up tt D o) (va_up ts D s) (va_up tv D v) := by
  intro e he
  simp only [zup_at, if_neg he, and_self]
theorem zKLv_trans {D : Nat} {tk tq tm : Nat → Nat} {tw : Nat → Int32} {tc : Nat → Nat} {tr tg tt ts tv : Nat → Nat → Nat} {tk' tq' tm' : Nat → Nat} {tw' : Nat → Int32} {tc' : Nat → Nat} {tr' tg' tt' ts' tv' : Nat → Nat → Nat} {tk2 tq2 tm2 : Nat → Nat} {tw2 : Nat → Int32} {tc2 : Nat → Nat} {tr2 tg2 tt2 ts2 tv2 : Nat → Nat → Nat} (h : zKLv D tk tq tm tw tc tr tg tt ts tv tk' tq' tm' tw' tc' tr' tg' tt' ts' tv') (h2 : zKLv D tk' tq' tm' tw' tc' tr' tg' tt' ts' tv' tk2 tq2 tm2 tw2 tc2 tr2 tg2 tt2 ts2 tv2) : zKLv D tk tq tm tw tc tr tg tt ts tv tk2 tq2 tm2 tw2 tc2 tr2 tg2 tt2 ts2 tv2 := by
  intro e he
  obtain ⟨a1, a2, a3, a4, a5, a6, a7, a8, a9, a10⟩ := h e he
  obtain ⟨b1, b2, b3, b4, b5, b6, b7, b8, b9, b10⟩ := h2 e he
  exact ⟨b1.trans a1, b2.trans a2, b3.trans a3, b4.trans a4, b5.trans a5, b6.trans a6, b7.trans a7, b8.trans a8, b9.trans a9, b10.trans a10⟩
theorem zLive_trans {td ki kd pe sk wo td' ki' kd' pe' sk' wo' td2 ki2 kd2 pe2 sk2 wo2 : Nat → Nat} (h : zLive td ki kd pe sk wo td' ki' kd' pe' sk' wo') (h2 : zLive td' ki' kd' pe' sk' wo' td2 ki2 kd2 pe2 sk2 wo2) : zLive td ki kd pe sk wo td2 ki2 kd2 pe2 sk2 wo2 := by
  obtain ⟨a1, a2, a3, a4, a5, a6, a7⟩ := h
  obtain ⟨b1, b2, b3, b4, b5, b6, b7⟩ := h2
  exact ⟨b1.trans a1, b2.trans a2, b3.trans a3, b4.trans a4, fun j hj => (b5 j hj).trans (a5 j hj), fun j hj => (b6 j hj).trans (a6 j hj), fun j hj => (b7 j hj).trans (a7 j hj)⟩
section
variable {xs : Nat → Int32} {L : Nat} {C h H : ZH} {tl tp : Nat} {tb : Nat → Nat} {cu : Nat} {tk tq tm : Nat → Nat} {tw : Nat → Int32} {tc : Nat → Nat} {tr tg tt ts tv : Nat → Nat → Nat} {dn dh : Nat → Nat} {dw dk de dx dt : Nat → Nat → Nat} {ps : Nat} {pd : Nat → Nat} {ks : Nat} {kq : Nat → Nat} {ss : Nat} {sc sn wm wb wr : Nat → Nat} {wp wt : Nat} {aw ak av ap an : Nat → Nat} {aq al : Nat}  {len at_ kep don see : Nat} {fit : Int32} {tx : Nat → Int32} {td ki kd pe sk wo sl sa wy be po mh : Nat → Nat} {go : Nat → Int32}  {D items : Nat}
theorem z_read (hD : D < 2) (hl : tl ≤ 300) (htb : ∀ j, tb j < 256) (htx : ∀ j, j < tl → tx j = zsx (tb j)) (r : Nat) (hr : tl ≤ tp + r) (hp : tp ≤ tl) (hi : items ≤ tp) (hR : zRd td ki kd pe sk wo (tk D) (tq D) (tm D) (tw D) (tc D) (tr D) (tg D) (tt D) (ts D) (tv D)) :
    ∃ (ans : Int32) (tp' : Nat) (tk' tq' tm' : Nat → Nat) (tw' : Nat → Int32) (tc' : Nat → Nat) (tr' tg' tt' ts' tv' : Nat → Nat → Nat), zKLv D tk tq tm tw tc tr tg tt ts tv tk' tq' tm' tw' tc' tr' tg' tt' ts' tv' ∧ (∀ j, j < 30 → tv' D j < 10) ∧ (∀ (M : ZH) (v3 : Value), zev xs L 31 11 [.ref 1, .ref (zta D), .int (nI items), v3] [] (zK tl tp tb cu tk tq tm tw tc tr tg tt ts tv dn dh dw dk de dx dt ps pd ks kq ss sc sn wm wb wr wp wt aw ak av ap an aq al ++ M) = some (some (.int ans), zK tl (tp') tb cu (tk') (tq') (tm') (tw') (tc') (tr') (tg') (tt') (ts') (tv') dn dh dw dk de dx dt ps pd ks kq ss sc sn wm wb wr wp wt aw ak av ap an aq al ++ M)) ∧
    ∀ (C : ZH) (v1 : Value), C.length = 104 → ∃ (at' : Nat) (td' ki' kd' pe' sk' wo' : Nat → Nat) (go' : Nat → Int32), zLive td ki kd pe sk wo td' ki' kd' pe' sk' wo' ∧ (∀ j, j < 60 → wo' j < 10) ∧ zev xs L 112 9 [.ref 104, v1] [] (C ++ zM (tl) (tp) kep don see fit tx td ki kd pe sk wo sl sa wy be po mh go) = some (some (.int ans), C ++ zM (tl) (at') kep don see fit tx (td') (ki') (kd') (pe') (sk') (wo') sl sa wy be po mh (go')) ∧ (ans = -4 → zRd td' ki' kd' pe' sk' wo' (tk' D) (tq' D) (tm' D) (tw' D) (tc' D) (tr' D) (tg' D) (tt' D) (ts' D) (tv' D)) := by
  induction r generalizing tp tk tq tm tw tc tr tg tt ts tv td ki kd pe sk wo go items with
  | zero =>
    have hpe : tp = tl := by omega
    have h13 := hR.2.2.2.2.2.2.2.2.2.2.2.2
    refine ⟨-4, tp, tk, tq, tm, tw, tc, tr, tg, tt, ts, tv, fun e he => ⟨rfl, rfl, rfl, rfl, rfl, rfl, rfl, rfl, rfl, rfl⟩, h13.1, fun M v3 => l_riE hl hpe (by omega), fun C v1 hC => ⟨tp, td, ki, kd, pe, sk, wo, go, ⟨rfl, rfl, rfl, rfl, fun _ _ => rfl, fun _ _ => rfl, fun _ _ => rfl⟩, h13.2, l_flE hC hl hpe, fun _ => hR⟩⟩
  | succ r ih =>
    have hR0 := hR
    obtain ⟨h1, h2, h3, h4, h5, h6, h7, h8, h9, h10, h11, h12, h13, h14⟩ := hR
    by_cases hpe : tp = tl
    · refine ⟨-4, tp, tk, tq, tm, tw, tc, tr, tg, tt, ts, tv, fun e he => ⟨rfl, rfl, rfl, rfl, rfl, rfl, rfl, rfl, rfl, rfl⟩, h13, fun M v3 => l_riE hl hpe (by omega), fun C v1 hC => ⟨tp, td, ki, kd, pe, sk, wo, go, ⟨rfl, rfl, rfl, rfl, fun _ _ => rfl, fun _ _ => rfl, fun _ _ => rfl⟩, h14, l_flE hC hl hpe, fun _ => hR0⟩⟩
    have hlt : tp < tl := by omega
    -- both fail
    have FAIL : zFail xs L D (fun p' y f => zK tl (p') tb cu tk tq tm (va_up tw D y) tc tr tg tt ts (va_up tv D f) dn dh dw dk de dx dt ps pd ks kq ss sc sn wm wb wr wp wt aw ak av ap an aq al) (zK tl tp tb cu tk tq tm tw tc tr tg tt ts tv dn dh dw dk de dx dt ps pd ks kq ss sc sn wm wb wr wp wt aw ak av ap an aq al) → (∀ C : ZH, C.length = 104 → zFailM xs L C td wo (fun p' td' wo' g => zM (tl) (p') kep don see fit tx (td') ki kd pe sk (wo') sl sa wy be po mh (g)) (zM (tl) (tp) kep don see fit tx td ki kd pe sk wo sl sa wy be po mh go)) → ∃ (ans : Int32) (tp' : Nat) (tk' tq' tm' : Nat → Nat) (tw' : Nat → Int32) (tc' : Nat → Nat) (tr' tg' tt' ts' tv' : Nat → Nat → Nat), zKLv D tk tq tm tw tc tr tg tt ts tv tk' tq' tm' tw' tc' tr' tg' tt' ts' tv' ∧ (∀ j, j < 30 → tv' D j < 10) ∧ (∀ (M : ZH) (v3 : Value), zev xs L 31 11 [.ref 1, .ref (zta D), .int (nI items), v3] [] (zK tl tp tb cu tk tq tm tw tc tr tg tt ts tv dn dh dw dk de dx dt ps pd ks kq ss sc sn wm wb wr wp wt aw ak av ap an aq al ++ M) = some (some (.int ans), zK tl (tp') tb cu (tk') (tq') (tm') (tw') (tc') (tr') (tg') (tt') (ts') (tv') dn dh dw dk de dx dt ps pd ks kq ss sc sn wm wb wr wp wt aw ak av ap an aq al ++ M)) ∧
    ∀ (C : ZH) (v1 : Value), C.length = 104 → ∃ (at' : Nat) (td' ki' kd' pe' sk' wo' : Nat → Nat) (go' : Nat → Int32), zLive td ki kd pe sk wo td' ki' kd' pe' sk' wo' ∧ (∀ j, j < 60 → wo' j < 10) ∧ zev xs L 112 9 [.ref 104, v1] [] (C ++ zM (tl) (tp) kep don see fit tx td ki kd pe sk wo sl sa wy be po mh go) = some (some (.int ans), C ++ zM (tl) (at') kep don see fit tx (td') (ki') (kd') (pe') (sk') (wo') sl sa wy be po mh (go')) ∧ (ans = -4 → zRd td' ki' kd' pe' sk' wo' (tk' D) (tq' D) (tm' D) (tw' D) (tc' D) (tr' D) (tg' D) (tt' D) (ts' D) (tv' D)) := by
      intro hF hM
      obtain ⟨p', y, f, f1, f2⟩ := hF
      refine ⟨nI tp, p', tk, tq, tm, va_up tw D y, tc, tr, tg, tt, ts, va_up tv D f, fun e he => ⟨rfl, rfl, rfl, va_up_ne _ _ he, rfl, rfl, rfl, rfl, rfl, va_up_ne _ _ he⟩, by rw [va_up_self]; exact f1, fun M v3 => l_riF hD hl hlt (by omega) (f2 M), fun C v1 hC => ?_⟩
      obtain ⟨q', td', wo', g, g1, g2, g3, g4, g5⟩ := hM C hC
      exact ⟨q', td', ki, kd, pe, sk, wo', g, ⟨g1, g2, rfl, rfl, fun _ _ => rfl, fun _ _ => rfl, g3⟩, g4, l_flF hC hl hlt g5, fun q => absurd q (zm4_ne (by omega))⟩
    by_cases ck : tb tp = 107
    · by_cases c : (∃ a b c q, zokK tb tl tp a b c q) ∧ tk D < 5 ∧ tq D = 0
      · obtain ⟨⟨a, b, c, q, hz⟩, c1, c2⟩ := c
        obtain ⟨⟨b1, b2, b3, b4, b5, b6⟩, e⟩ := it_k_ok (xs := xs) (L := L) (tl := tl) (tp := tp) (tb := tb) (cu := cu) (tk := tk) (tq := tq) (tm := tm) (tw := tw) (tc := tc) (tr := tr) (tg := tg) (tt := tt) (ts := ts) (tv := tv) (dn := dn) (dh := dh) (dw := dw) (dk := dk) (de := de) (dx := dx) (dt := dt) (ps := ps) (pd := pd) (ks := ks) (kq := kq) (ss := ss) (sc := sc) (sn := sn) (wm := wm) (wb := wb) (wr := wr) (wp := wp) (wt := wt) (aw := aw) (ak := ak) (av := av) (ap := ap) (an := an) (aq := aq) (al := al) hD hl hlt htb ck c1 c2 (by have := zRd_m hR0; omega) hz
        obtain ⟨ans, tp', tk', tq', tm', tw', tc', tr', tg', tt', ts', tv', r1, r2, r3, r4⟩ := ih (tp := q) (items := items + 1) (tk := va_up tk D (tk D + 1)) (tq := tq) (tm := va_up tm D (tm D + c)) (tw := tw) (tc := tc) (tr := va_up tr D (va_up (tr D) (tk D) a)) (tg := va_up tg D (va_up (tg D) (tk D) b)) (tt := va_up tt D (va_up (tt D) (tk D) c)) (ts := ts) (tv := tv) (td := td) (ki := va_up ki 1 (ki 1 + 1)) (kd := va_up (va_up (va_up kd (15 + 3 * ki 1) a) (15 + 3 * ki 1 + 1) b) (15 + 3 * ki 1 + 2) c) (pe := pe) (sk := sk) (wo := wo) (go := va_up (va_up (va_up go 0 (nI a)) 1 (nI b)) 2 (nI c)) (by omega) (by omega) (by omega) (by rw [va_up_self, va_up_self, va_up_self, va_up_self, va_up_self]; exact zRd_k hR0 c1 b3 b4 ⟨b5, b6⟩)
        refine ⟨ans, tp', tk', tq', tm', tw', tc', tr', tg', tt', ts', tv', zKLv_trans (fun e he => ⟨va_up_ne _ _ he, rfl, va_up_ne _ _ he, rfl, rfl, va_up_ne _ _ he, va_up_ne _ _ he, va_up_ne _ _ he, rfl, rfl⟩) r1, r2, fun M v3 => (l_riS hD hl hlt (by omega) (e M)).trans (r3 M _), fun C v1 hC => ?_⟩
        obtain ⟨at', td', ki', kd', pe', sk', wo', go', s1, s2, s3, s4⟩ := r4 C (.int (nI tp)) hC
        refine ⟨at', td', ki', kd', pe', sk', wo', go', zLive_trans ⟨rfl, rfl, va_up_ne _ _ (by omega), rfl, fun j hj => by rw [va_up_ne _ _ (by omega), va_up_ne _ _ (by omega), va_up_ne _ _ (by omega)], fun _ _ => rfl, fun _ _ => rfl⟩ s1, s2, ?_, s4⟩
        exact (l_flS hC hl hlt (mi_k_ok hC hl htb htx hlt ck (by omega) (by omega) hz)).trans s3
      · exact FAIL (it_k_no hD hl hlt htb h13 ck (by omega) (by omega) c) (fun C hC => mi_k_no hC hl htb htx hlt ck h2 h4 h14 (by rw [← h1, ← h3]; exact c))
    · by_cases cp : tb tp = 112
      · by_cases c : (∃ a q, znb2 tb tl (tp + 1) 0 63 59 = some (a, q)) ∧ tq D < 6
        · obtain ⟨⟨a, q, hz⟩, c1⟩ := c
          obtain ⟨⟨b1, b2, b3⟩, e⟩ := it_p_ok (xs := xs) (L := L) (tl := tl) (tp := tp) (tb := tb) (cu := cu) (tk := tk) (tq := tq) (tm := tm) (tw := tw) (tc := tc) (tr := tr) (tg := tg) (tt := tt) (ts := ts) (tv := tv) (dn := dn) (dh := dh) (dw := dw) (dk := dk) (de := de) (dx := dx) (dt := dt) (ps := ps) (pd := pd) (ks := ks) (kq := kq) (ss := ss) (sc := sc) (sn := sn) (wm := wm) (wb := wb) (wr := wr) (wp := wp) (wt := wt) (aw := aw) (ak := ak) (av := av) (ap := ap) (an := an) (aq := aq) (al := al) hD hl hlt htb cp c1 hz
          obtain ⟨ans, tp', tk', tq', tm', tw', tc', tr', tg', tt', ts', tv', r1, r2, r3, r4⟩ := ih (tp := q) (items := items + 1) (tk := tk) (tq := va_up tq D (tq D + 1)) (tm := tm) (tw := tw) (tc := tc) (tr := tr) (tg := tg) (tt := tt) (ts := va_up ts D (va_up (ts D) (tq D) a)) (tv := va_up tv D (va_up (va_up (va_up (va_up (va_up (tv D) (5 * tq D) 0) (5 * tq D + 1) 0) (5 * tq D + 2) 0) (5 * tq D + 3) 0) (5 * tq D + 4) 0)) (td := td) (ki := ki) (kd := kd) (pe := va_up pe 1 (pe 1 + 1)) (sk := va_up sk (6 + pe 1) a) (wo := va_up (va_up (va_up (va_up (va_up wo (30 + 5 * pe 1) 0) (30 + 5 * pe 1 + 1) 0) (30 + 5 * pe 1 + 2) 0) (30 + 5 * pe 1 + 3) 0) (30 + 5 * pe 1 + 4) 0) (go := va_up go 0 (nI a)) (by omega) (by omega) (by omega) (by rw [va_up_self, va_up_self, va_up_self]; exact zRd_p hR0 c1 b3)
          refine ⟨ans, tp', tk', tq', tm', tw', tc', tr', tg', tt', ts', tv', zKLv_trans (fun e he => ⟨rfl, va_up_ne _ _ he, rfl, rfl, rfl, rfl, rfl, rfl, va_up_ne _ _ he, va_up_ne _ _ he⟩) r1, r2, fun M v3 => (l_riS hD hl hlt (by omega) (e M)).trans (r3 M _), fun C v1 hC => ?_⟩
          obtain ⟨at', td', ki', kd', pe', sk', wo', go', s1, s2, s3, s4⟩ := r4 C (.int (nI tp)) hC
          refine ⟨at', td', ki', kd', pe', sk', wo', go', zLive_trans ⟨rfl, rfl, rfl, va_up_ne _ _ (by omega), fun _ _ => rfl, fun j hj => va_up_ne _ _ (by omega), fun j hj => by rw [va_up_ne _ _ (by omega), va_up_ne _ _ (by omega), va_up_ne _ _ (by omega), va_up_ne _ _ (by omega), va_up_ne _ _ (by omega)]⟩ s1, s2, ?_, s4⟩
          exact (l_flS hC hl hlt (mi_p_ok hC hl htb htx hlt cp (by omega) hz)).trans s3
        · exact FAIL (it_p_no hD hl hlt htb h13 cp (by omega) c) (fun C hC => mi_p_no hC hl htb htx hlt cp h4 h14 (by rw [← h3]; exact c))
      · by_cases cd : tb tp = 100
        · cases hz : znb2 tb tl (tp + 1) 0 63 59 with
          | some s =>
            obtain ⟨a, q⟩ := s
            obtain ⟨⟨b1, b2, b3⟩, e⟩ := it_d_ok (xs := xs) (L := L) (tl := tl) (tp := tp) (tb := tb) (cu := cu) (tk := tk) (tq := tq) (tm := tm) (tw := tw) (tc := tc) (tr := tr) (tg := tg) (tt := tt) (ts := ts) (tv := tv) (dn := dn) (dh := dh) (dw := dw) (dk := dk) (de := de) (dx := dx) (dt := dt) (ps := ps) (pd := pd) (ks := ks) (kq := kq) (ss := ss) (sc := sc) (sn := sn) (wm := wm) (wb := wb) (wr := wr) (wp := wp) (wt := wt) (aw := aw) (ak := ak) (av := av) (ap := ap) (an := an) (aq := aq) (al := al) hD hl hlt htb cd hz
            obtain ⟨ans, tp', tk', tq', tm', tw', tc', tr', tg', tt', ts', tv', r1, r2, r3, r4⟩ := ih (tp := q) (items := items + 1) (tk := tk) (tq := tq) (tm := tm) (tw := va_up tw D (nI a)) (tc := tc) (tr := tr) (tg := tg) (tt := tt) (ts := ts) (tv := tv) (td := va_up td 2 a) (ki := ki) (kd := kd) (pe := pe) (sk := sk) (wo := wo) (go := va_up go 0 (nI a)) (by omega) (by omega) (by omega) (by rw [va_up_self]; exact zRd_d hR0 b3)
            refine ⟨ans, tp', tk', tq', tm', tw', tc', tr', tg', tt', ts', tv', zKLv_trans (fun e he => ⟨rfl, rfl, rfl, va_up_ne _ _ he, rfl, rfl, rfl, rfl, rfl, rfl⟩) r1, r2, fun M v3 => (l_riS hD hl hlt (by omega) (e M)).trans (r3 M _), fun C v1 hC => ?_⟩
            obtain ⟨at', td', ki', kd', pe', sk', wo', go', s1, s2, s3, s4⟩ := r4 C (.int (nI tp)) hC
            refine ⟨at', td', ki', kd', pe', sk', wo', go', zLive_trans ⟨va_up_ne _ _ (by omega), va_up_ne _ _ (by omega), rfl, rfl, fun _ _ => rfl, fun _ _ => rfl, fun _ _ => rfl⟩ s1, s2, ?_, s4⟩
            exact (l_flS hC hl hlt (mi_d_ok hC hl htb htx hlt cd hz)).trans s3
          | none => exact FAIL (it_d_no hD hl hlt htb h13 cd hz) (fun C hC => mi_d_no hC hl htb htx hlt cd h14 hz)
        · by_cases cl : tb tp = 108
          · by_cases c : ∃ a q, znb2 tb tl (tp + 1) 0 5 59 = some (a, q) ∧ a < tk D
            · obtain ⟨a, q, hz, c1⟩ := c
              obtain ⟨⟨b1, b2⟩, e⟩ := it_l_ok (xs := xs) (L := L) (tl := tl) (tp := tp) (tb := tb) (cu := cu) (tk := tk) (tq := tq) (tm := tm) (tw := tw) (tc := tc) (tr := tr) (tg := tg) (tt := tt) (ts := ts) (tv := tv) (dn := dn) (dh := dh) (dw := dw) (dk := dk) (de := de) (dx := dx) (dt := dt) (ps := ps) (pd := pd) (ks := ks) (kq := kq) (ss := ss) (sc := sc) (sn := sn) (wm := wm) (wb := wb) (wr := wr) (wp := wp) (wt := wt) (aw := aw) (ak := ak) (av := av) (ap := ap) (an := an) (aq := aq) (al := al) hD hl hlt htb cl (by omega) hz c1
              obtain ⟨ans, tp', tk', tq', tm', tw', tc', tr', tg', tt', ts', tv', r1, r2, r3, r4⟩ := ih (tp := q) (items := items + 1) (tk := tk) (tq := tq) (tm := tm) (tw := tw) (tc := va_up tc D (tc D ||| 2 ^ a)) (tr := tr) (tg := tg) (tt := tt) (ts := ts) (tv := tv) (td := va_up td 3 (td 3 ||| 2 ^ a)) (ki := ki) (kd := kd) (pe := pe) (sk := sk) (wo := wo) (go := va_up go 0 (nI a)) (by omega) (by omega) (by omega) (by rw [va_up_self]; exact zRd_l hR0 c1)
              refine ⟨ans, tp', tk', tq', tm', tw', tc', tr', tg', tt', ts', tv', zKLv_trans (fun e he => ⟨rfl, rfl, rfl, rfl, va_up_ne _ _ he, rfl, rfl, rfl, rfl, rfl⟩) r1, r2, fun M v3 => (l_riS hD hl hlt (by omega) (e M)).trans (r3 M _), fun C v1 hC => ?_⟩
              obtain ⟨at', td', ki', kd', pe', sk', wo', go', s1, s2, s3, s4⟩ := r4 C (.int (nI tp)) hC
              refine ⟨at', td', ki', kd', pe', sk', wo', go', zLive_trans ⟨va_up_ne _ _ (by omega), va_up_ne _ _ (by omega), rfl, rfl, fun _ _ => rfl, fun _ _ => rfl, fun _ _ => rfl⟩ s1, s2, ?_, s4⟩
              exact (l_flS hC hl hlt (mi_l_ok hC hl htb htx hlt cl h2 hz (by omega))).trans s3
            · exact FAIL (it_l_no hD hl hlt htb h13 cl (by omega) c) (fun C hC => mi_l_no hC hl htb htx hlt cl h2 h14 (by rw [← h1]; exact c))
          · by_cases cw : tb tp = 119
            · by_cases c : 1 ≤ tq D ∧ zokW tb tl tp (tk D)
              · obtain ⟨c1, hz⟩ := c
                have e := it_w_ok (xs := xs) (L := L) (tl := tl) (tp := tp) (tb := tb) (cu := cu) (tk := tk) (tq := tq) (tm := tm) (tw := tw) (tc := tc) (tr := tr) (tg := tg) (tt := tt) (ts := ts) (tv := tv) (dn := dn) (dh := dh) (dw := dw) (dk := dk) (de := de) (dx := dx) (dt := dt) (ps := ps) (pd := pd) (ks := ks) (kq := kq) (ss := ss) (sc := sc) (sn := sn) (wm := wm) (wb := wb) (wr := wr) (wp := wp) (wt := wt) (aw := aw) (ak := ak) (av := av) (ap := ap) (an := an) (aq := aq) (al := al) hD hl hlt htb cw (by omega) ⟨c1, by omega⟩ hz
                obtain ⟨ans, tp', tk', tq', tm', tw', tc', tr', tg', tt', ts', tv', r1, r2, r3, r4⟩ := ih (tp := tp + 1 + tk D + 1) (items := items + 1) (tk := tk) (tq := tq) (tm := tm) (tw := tw) (tc := tc) (tr := tr) (tg := tg) (tt := tt) (ts := ts) (tv := va_up tv D (zwoU (tv D) tb (5 * (tq D - 1)) (tp + 1) (tk D))) (td := td) (ki := ki) (kd := kd) (pe := pe) (sk := sk) (wo := zwoU wo tb (30 + 5 * (pe 1 - 1)) (tp + 1) (ki 1)) (go := go) (by omega) (by have := hz.2.1; omega) (by omega) (by rw [va_up_self]; exact zRd_w hR0 c1 hz.1)
                refine ⟨ans, tp', tk', tq', tm', tw', tc', tr', tg', tt', ts', tv', zKLv_trans (fun e he => ⟨rfl, rfl, rfl, rfl, rfl, rfl, rfl, rfl, rfl, va_up_ne _ _ he⟩) r1, r2, fun M v3 => (l_riS hD hl hlt (by omega) (e M)).trans (r3 M _), fun C v1 hC => ?_⟩
                obtain ⟨at', td', ki', kd', pe', sk', wo', go', s1, s2, s3, s4⟩ := r4 C (.int (nI tp)) hC
                refine ⟨at', td', ki', kd', pe', sk', wo', go', zLive_trans ⟨rfl, rfl, rfl, rfl, fun _ _ => rfl, fun _ _ => rfl, fun j hj => by unfold zwoU; rw [if_neg (by omega)]⟩ s1, s2, ?_, s4⟩
                have em := mi_w_ok (xs := xs) (L := L) (C := C) (len := tl) (at_ := tp) (kep := kep) (don := don) (see := see) (fit := fit) (tx := tx) (td := td) (ki := ki) (kd := kd) (pe := pe) (sk := sk) (wo := wo) (sl := sl) (sa := sa) (wy := wy) (be := be) (po := po) (mh := mh) (go := go) (t := tb) hC hl htb htx hlt cw h2 ⟨by omega, h4⟩ h14 (by rw [← h1]; exact hz)
                rw [← h1] at em
                rw [← h1] at s3
                exact (l_flS hC hl hlt em).trans s3
              · exact FAIL (it_w_no hD hl hlt htb h13 cw (by omega) (by omega) c) (fun C hC => mi_w_no hC hl htb htx hlt cw h2 h4 h14 (by rw [← h1, ← h3]; exact c))
            · exact FAIL (it_x_no hD hl hlt htb h13 ck cp cd cl cw) (fun C hC => mi_x_no hC hl htb htx hlt h14 ck cp cd cl cw)
end
