/-! ===== the relation of the two states ===== -/
def zR1 (tl : Nat) (tb : Nat → Nat) (len : Nat) (tx : Nat → Int32) : Prop := len = tl ∧ tl ≤ 300 ∧ (∀ j, tb j < 256) ∧ ∀ j, j < tl → tx j = zsx (tb j)
def zR2 (k q : Nat) (w : Int32) (c : Nat) (r g o s v : Nat → Nat) (td ki kd pe sk wo : Nat → Nat) : Prop :=
  k = ki 0 ∧ (1 ≤ ki 0 ∧ ki 0 ≤ 5) ∧ q = pe 0 ∧ (1 ≤ pe 0 ∧ pe 0 ≤ 6) ∧ w = nI (td 0) ∧ td 0 < 64 ∧ c = td 1 ∧ td 1 < 64 ∧
  (∀ j, j < ki 0 → r j = kd (3 * j) ∧ g j = kd (3 * j + 1) ∧ o j = kd (3 * j + 2) ∧ kd (3 * j + 2) ≤ 6) ∧ (∀ i, i < pe 0 → s i = sk i ∧ sk i < 64) ∧
  (∀ j, j < 5 * pe 0 → v j = wo j) ∧ (∀ j, j < 30 → v j < 10) ∧ (∀ j, j < 60 → wo j < 10)
/-- a day of the class, a page of the reference -/
def zDR (n kn N H : Nat) (W F E X T P : Nat → Nat) : Prop :=
  N = P 60 ∧ H < 2 ^ n ∧ (∀ i, i < 6 → P (12 + i) = H / 2 ^ i % 2) ∧ (∀ i, i < n → W i = P i) ∧ (∀ i, i < 6 → W i < 6) ∧ (∀ i, i < 6 → P i < 6) ∧
  (∀ m, m < 6 → F m = P (6 + m) ∧ F m < kn) ∧ (∀ i, i < 6 → E i = P (18 + i)) ∧ (∀ i, i < 6 → X i = P (24 + i)) ∧ (∀ q, q < 30 → T q = P (30 + q) ∧ T q ≤ N)
def zDy (n kn : Nat) (dn dh : Nat → Nat) (dw dk de dx dt : Nat → Nat → Nat) (sl : Nat → Nat) (d s : Nat) : Prop :=
  zDR n kn (dn d) (dh d) (dw d) (dk d) (de d) (dx d) (dt d) (fun j => sl (61 * s + j)) ∧ dn d ≤ 9999
def zR3 (n kn : Nat) (dn dh : Nat → Nat) (dw dk de dx dt : Nat → Nat → Nat) (ps : Nat) (pd : Nat → Nat) (ks : Nat) (kq : Nat → Nat) (sl : Nat → Nat) (don kep : Nat) : Prop :=
  zDy n kn dn dh dw dk de dx dt sl 0 0 ∧ ps = don ∧ ps ≤ 8 ∧ (∀ j, j < 8 → 2 ≤ pd j ∧ pd j < 10) ∧ (∀ i j, i < 8 → j < 8 → pd i = pd j → i = j) ∧
  (∀ j, j < ps → zDy n kn dn dh dw dk de dx dt sl (pd j) (3 + j)) ∧ ks = kep ∧ ks ≤ 2 ∧ (∀ j, j < 2 → kq j = 10 + j) ∧ (∀ j, j < ks → zDy n kn dn dh dw dk de dx dt sl (10 + j) (1 + j))
def zR4 (n ss : Nat) (sc sn : Nat → Nat) (see : Nat) (sa : Nat → Nat) : Prop :=
  ss = see ∧ see ≤ 10 ∧ (∀ i, i < 6 → sc i < 64 ∧ sn i < 64) ∧ (∀ k, k < see → sa (3 * k) < n ∧ sa (3 * k + 1) < 6 ∧ sa (3 * k + 2) < 2) ∧
  (∀ i, i < 6 → ∀ x, x < 64 → ((x &&& sc i = sc i ∧ x &&& sn i = 0) ↔ ∀ k, k < see → sa (3 * k) = i → ((¬ x &&& 2 ^ sa (3 * k + 1) = 0) ↔ sa (3 * k + 2) = 1)))
def zR5 (wm an mh : Nat → Nat) : Prop := (∀ j, j < 6 → wm j < 6) ∧ ∀ i, i < 6 → an i = mh i
def zRR (tl tp : Nat) (tb : Nat → Nat) (cu : Nat) (tk tq tm : Nat → Nat) (tw : Nat → Int32) (tc : Nat → Nat) (tr tg tt ts tv : Nat → Nat → Nat) (dn dh : Nat → Nat) (dw dk de dx dt : Nat → Nat → Nat) (ps : Nat) (pd : Nat → Nat) (ks : Nat) (kq : Nat → Nat) (ss : Nat) (sc sn wm wb wr : Nat → Nat) (wp wt : Nat) (aw ak av ap an : Nat → Nat) (aq al : Nat) (len at_ kep don see : Nat) (fit : Int32) (tx : Nat → Int32) (td ki kd pe sk wo sl sa wy be po mh : Nat → Nat) (go : Nat → Int32) : Prop := cu < 2 ∧ zR1 tl tb len tx ∧ zR2 (tk cu) (tq cu) (tw cu) (tc cu) (tr cu) (tg cu) (tt cu) (ts cu) (tv cu) td ki kd pe sk wo ∧ (∀ j, j < 30 → tv (1 - cu) j < 10) ∧ zR3 (pe 0) (ki 0) dn dh dw dk de dx dt ps pd ks kq sl don kep ∧ zR4 (pe 0) ss sc sn see sa ∧ zR5 wm an mh
def zRel (h : ZH) : Prop := ∃ (tl tp : Nat) (tb : Nat → Nat) (cu : Nat) (tk tq tm : Nat → Nat) (tw : Nat → Int32) (tc : Nat → Nat) (tr tg tt ts tv : Nat → Nat → Nat) (dn dh : Nat → Nat) (dw dk de dx dt : Nat → Nat → Nat) (ps : Nat) (pd : Nat → Nat) (ks : Nat) (kq : Nat → Nat) (ss : Nat) (sc sn wm wb wr : Nat → Nat) (wp wt : Nat) (aw ak av ap an : Nat → Nat) (aq al : Nat) (len at_ kep don see : Nat) (fit : Int32) (tx : Nat → Int32) (td ki kd pe sk wo sl sa wy be po mh : Nat → Nat) (go : Nat → Int32) , h = zK tl tp tb cu tk tq tm tw tc tr tg tt ts tv dn dh dw dk de dx dt ps pd ks kq ss sc sn wm wb wr wp wt aw ak av ap an aq al ++ zM len at_ kep don see fit tx td ki kd pe sk wo sl sa wy be po mh go ∧ zRR tl tp tb cu tk tq tm tw tc tr tg tt ts tv dn dh dw dk de dx dt ps pd ks kq ss sc sn wm wb wr wp wt aw ak av ap an aq al len at_ kep don see fit tx td ki kd pe sk wo sl sa wy be po mh go
section
variable {tl tp : Nat} {tb : Nat → Nat} {cu : Nat} {tk tq tm : Nat → Nat} {tw : Nat → Int32} {tc : Nat → Nat} {tr tg tt ts tv : Nat → Nat → Nat} {dn dh : Nat → Nat} {dw dk de dx dt : Nat → Nat → Nat} {ps : Nat} {pd : Nat → Nat} {ks : Nat} {kq : Nat → Nat} {ss : Nat} {sc sn wm wb wr : Nat → Nat} {wp wt : Nat} {aw ak av ap an : Nat → Nat} {aq al : Nat}  {len at_ kep don see : Nat} {fit : Int32} {tx : Nat → Int32} {td ki kd pe sk wo sl sa wy be po mh : Nat → Nat} {go : Nat → Int32} 
theorem zRel_mk (h : zRR tl tp tb cu tk tq tm tw tc tr tg tt ts tv dn dh dw dk de dx dt ps pd ks kq ss sc sn wm wb wr wp wt aw ak av ap an aq al len at_ kep don see fit tx td ki kd pe sk wo sl sa wy be po mh go) : zRel (zK tl tp tb cu tk tq tm tw tc tr tg tt ts tv dn dh dw dk de dx dt ps pd ks kq ss sc sn wm wb wr wp wt aw ak av ap an aq al ++ zM len at_ kep don see fit tx td ki kd pe sk wo sl sa wy be po mh go) := ⟨tl, tp, tb, cu, tk, tq, tm, tw, tc, tr, tg, tt, ts, tv, dn, dh, dw, dk, de, dx, dt, ps, pd, ks, kq, ss, sc, sn, wm, wb, wr, wp, wt, aw, ak, av, ap, an, aq, al, len, at_, kep, don, see, fit, tx, td, ki, kd, pe, sk, wo, sl, sa, wy, be, po, mh, go, rfl, h⟩
end
/-- one call, done by both: one answer, and the states go on alike -/
def zDo (xs : Nat → Int32) (L a : Nat) (la : List Value) (b : Nat) (lb : List Value) (h : ZH) : Prop := ∃ (x : Int32) (h1 h2 : ZH), zev xs L a 0 la [] h = some (some (.int x), h1) ∧ zev xs L b 0 lb [] h1 = some (some (.int x), h2) ∧ ztag h1 104 = some 8 ∧ zRel h2
theorem zDo_mk {xs : Nat → Int32} {L a b : Nat} {la lb : List Value} {h C M H : ZH} {x y : Int32} (h1 : zev xs L a 0 la [] h = some (some (.int x), C ++ M)) (h2 : zev xs L b 0 lb [] (C ++ M) = some (some (.int y), H)) (ht : ztag (C ++ M) 104 = some 8) (e : x = y) (hr : zRel H) : zDo xs L a la b lb h := by
  subst e; exact ⟨x, C ++ M, H, h1, h2, ht, hr⟩
/-! days -/
theorem zDR_c {n kn N H : Nat} {W F E X T P P' : Nat → Nat} (h : zDR n kn N H W F E X T P) (hP : ∀ j, j < 61 → P' j = P j) (hn : n ≤ 6) : zDR n kn N H W F E X T P' := by
  obtain ⟨h1, h2, h3, h4, h5, h6, h7, h8, h9, h10⟩ := h
  refine ⟨by rw [hP 60 (by omega)]; exact h1, h2, fun i hi => by rw [hP _ (by omega)]; exact h3 i hi, fun i hi => by rw [hP _ (by omega)]; exact h4 i hi, h5, fun i hi => by rw [hP _ (by omega)]; exact h6 i hi, fun m hm => by rw [hP _ (by omega)]; exact h7 m hm, fun i hi => by rw [hP _ (by omega)]; exact h8 i hi, fun i hi => by rw [hP _ (by omega)]; exact h9 i hi, fun q hq => by rw [hP _ (by omega)]; exact h10 q hq⟩
section
variable {n kn : Nat} {dn dh : Nat → Nat} {dw dk de dx dt : Nat → Nat → Nat} {dn1 dh1 : Nat → Nat} {dw1 dk1 de1 dx1 dt1 : Nat → Nat → Nat} {ps : Nat} {pd : Nat → Nat} {ks : Nat} {kq : Nat → Nat} {sl sl1 : Nat → Nat} {don kep d d1 s s1 : Nat}
abbrev zSame (dn dh : Nat → Nat) (dw dk de dx dt : Nat → Nat → Nat) (dn1 dh1 : Nat → Nat) (dw1 dk1 de1 dx1 dt1 : Nat → Nat → Nat) (d d1 : Nat) : Prop := dn1 d1 = dn d ∧ dh1 d1 = dh d ∧ dw1 d1 = dw d ∧ dk1 d1 = dk d ∧ de1 d1 = de d ∧ dx1 d1 = dx d ∧ dt1 d1 = dt d
theorem zDy_to (h : zDy n kn dn dh dw dk de dx dt sl d s) (hn : n ≤ 6) (hd : zSame dn dh dw dk de dx dt dn1 dh1 dw1 dk1 de1 dx1 dt1 d d1) (hs : ∀ j, j < 61 → sl1 (61 * s1 + j) = sl (61 * s + j)) : zDy n kn dn1 dh1 dw1 dk1 de1 dx1 dt1 sl1 d1 s1 := by
  obtain ⟨e1, e2, e3, e4, e5, e6, e7⟩ := hd
  unfold zDy
  rw [e1, e2, e3, e4, e5, e6, e7]
  exact ⟨zDR_c h.1 hs hn, h.2⟩
theorem zSame_ne {x : Nat} {a1 a2 : Nat} {a3 a4 a5 a6 a7 : Nat → Nat} (h : d ≠ x) : zSame dn dh dw dk de dx dt (va_up dn x a1) (va_up dh x a2) (va_up dw x a3) (va_up dk x a4) (va_up de x a5) (va_up dx x a6) (va_up dt x a7) d d := ⟨va_up_ne _ _ h, va_up_ne _ _ h, va_up_ne _ _ h, va_up_ne _ _ h, va_up_ne _ _ h, va_up_ne _ _ h, va_up_ne _ _ h⟩
theorem zSame_at {x : Nat} : zSame dn dh dw dk de dx dt (va_up dn x (dn d)) (va_up dh x (dh d)) (va_up dw x (dw d)) (va_up dk x (dk d)) (va_up de x (de d)) (va_up dx x (dx d)) (va_up dt x (dt d)) d x := ⟨va_up_self _ _ _, va_up_self _ _ _, va_up_self _ _ _, va_up_self _ _ _, va_up_self _ _ _, va_up_self _ _ _, va_up_self _ _ _⟩
/-- today's change, or that of the day supposed -/
theorem zR3_go (h : zR3 n kn dn dh dw dk de dx dt ps pd ks kq sl don kep) (hn : n ≤ 6) (hd : ∀ d, d ≠ 0 → d ≠ 1 → zSame dn dh dw dk de dx dt dn1 dh1 dw1 dk1 de1 dx1 dt1 d d) (hs : ∀ j, 61 ≤ j → j < 671 → sl1 j = sl j) (h0 : zDy n kn dn1 dh1 dw1 dk1 de1 dx1 dt1 sl1 0 0) : zR3 n kn dn1 dh1 dw1 dk1 de1 dx1 dt1 ps pd ks kq sl1 don kep := by
  obtain ⟨h1, h2, h3, h4, h5, h6, h7, h8, h9, h10⟩ := h
  refine ⟨h0, h2, h3, h4, h5, fun j hj => ?_, h7, h8, h9, fun j hj => ?_⟩
  · have := h4 j (by omega)
    exact zDy_to (h6 j hj) hn (hd _ (by omega) (by omega)) (fun q hq => hs _ (by omega) (by omega))
  · exact zDy_to (h10 j hj) hn (hd _ (by omega) (by omega)) (fun q hq => hs _ (by omega) (by omega))
theorem zR3_push (h : zR3 n kn dn dh dw dk de dx dt ps pd ks kq sl don kep) (hn : n ≤ 6) : zR3 n kn (va_up dn (zPi ps pd) (dn 0)) (va_up dh (zPi ps pd) (dh 0)) (va_up dw (zPi ps pd) (dw 0)) (va_up dk (zPi ps pd) (dk 0)) (va_up de (zPi ps pd) (de 0)) (va_up dx (zPi ps pd) (dx 0)) (va_up dt (zPi ps pd) (dt 0)) (zknd ps) (zPp ps pd) ks kq (zkn sl don) (zknd don) kep := by
  obtain ⟨h1, h2, h3, h4, h5, h6, h7, h8, h9, h10⟩ := h
  subst h2
  have hk0 : ∀ j, j < 183 → zkn sl ps j = sl j := by
    intro j hj; unfold zkn; split
    · rw [zcp_out (by omega)]; unfold zsh; rw [if_neg (by omega)]
    · rw [zcp_out (by omega)]
  by_cases g : ps = 8
  · subst g
    have X : zPi 8 pd = pd 0 := if_pos rfl
    have Y : zPp 8 pd = va_up (zrot pd 8) 7 (pd 0) := if_pos rfl
    have Z : zknd 8 = 8 := if_pos rfl
    have S : zkn sl 8 = zcp (zsh sl 10) 0 10 61 := if_pos rfl
    rw [X, Y, Z]
    have p0 := h4 0 (by omega)
    have pj : ∀ j, j < 7 → va_up (zrot pd 8) 7 (pd 0) j = pd (j + 1) := fun j hj => by rw [va_up_ne _ _ (by omega)]; unfold zrot; rw [if_pos (by omega)]
    have p7 : va_up (zrot pd 8) 7 (pd 0) 7 = pd 0 := va_up_self _ _ _
    refine ⟨zDy_to h1 hn (zSame_ne (by omega)) (fun j hj => hk0 _ (by omega)), rfl, by omega, fun j hj => ?_, fun i j hi hj e => ?_, fun j hj => ?_, h7, h8, h9, fun j hj => zDy_to (h10 j hj) hn (zSame_ne (by omega)) (fun q hq => hk0 _ (by omega))⟩
    · by_cases c : j = 7
      · subst c; rw [p7]; exact p0
      · rw [pj j (by omega)]; exact h4 _ (by omega)
    · by_cases ci : i = 7
      · subst ci
        by_cases cj : j = 7
        · exact cj.symm
        · rw [p7, pj j (by omega)] at e
          have := h5 _ _ (by omega) (by omega) e
          omega
      · by_cases cj : j = 7
        · subst cj
          rw [p7, pj i (by omega)] at e
          have := h5 _ _ (by omega) (by omega) e
          omega
        · rw [pj i (by omega), pj j (by omega)] at e
          have := h5 _ _ (by omega) (by omega) e
          omega
    · by_cases c : j = 7
      · subst c
        rw [p7]
        refine zDy_to h1 hn zSame_at (fun q hq => ?_)
        rw [S, show 61 * (3 + 7) + q = 61 * 10 + q by omega, zcp_in hq]
        unfold zsh; rw [if_neg (by omega)]
      · rw [pj j (by omega)]
        have hne : pd (j + 1) ≠ pd 0 := fun e => by have := h5 _ _ (by omega) (by omega) e; omega
        refine zDy_to (h6 (j + 1) (by omega)) hn (zSame_ne hne) (fun q hq => ?_)
        rw [S, zcp_out (by omega)]
        unfold zsh
        rw [if_pos (by omega)]
        congr 1; omega
  · have X : zPi ps pd = pd ps := if_neg g
    have Y : zPp ps pd = pd := if_neg g
    have Z : zknd ps = ps + 1 := if_neg g
    have S : zkn sl ps = zcp sl 0 (3 + ps) 61 := if_neg g
    rw [X, Y, Z]
    have p0 := h4 ps (by omega)
    refine ⟨zDy_to h1 hn (zSame_ne (by omega)) (fun j hj => hk0 _ (by omega)), rfl, by omega, h4, h5, fun j hj => ?_, h7, h8, h9, fun j hj => zDy_to (h10 j hj) hn (zSame_ne (by omega)) (fun q hq => hk0 _ (by omega))⟩
    by_cases c : j = ps
    · subst c
      refine zDy_to h1 hn zSame_at (fun q hq => ?_)
      rw [S, zcp_in hq]
    · have hne : pd j ≠ pd ps := fun e => c (h5 _ _ (by omega) (by omega) e)
      refine zDy_to (h6 j (by omega)) hn (zSame_ne hne) (fun q hq => ?_)
      rw [S, zcp_out (by omega)]
theorem zR3_undo (h : zR3 n kn dn dh dw dk de dx dt ps pd ks kq sl don kep) (hn : n ≤ 6) (hp : ps ≠ 0) : zR3 n kn (va_up dn 0 (dn (pd (ps - 1)))) (va_up dh 0 (dh (pd (ps - 1)))) (va_up dw 0 (dw (pd (ps - 1)))) (va_up dk 0 (dk (pd (ps - 1)))) (va_up de 0 (de (pd (ps - 1)))) (va_up dx 0 (dx (pd (ps - 1)))) (va_up dt 0 (dt (pd (ps - 1)))) (ps - 1) pd ks kq (zcp sl (3 + (don - 1)) 0 61) (don - 1) kep := by
  obtain ⟨h1, h2, h3, h4, h5, h6, h7, h8, h9, h10⟩ := h
  subst h2
  refine ⟨zDy_to (h6 (ps - 1) (by omega)) hn zSame_at (fun q hq => zcp_in hq), rfl, by omega, h4, h5, fun j hj => ?_, h7, h8, h9, fun j hj => ?_⟩
  · have := h4 j (by omega)
    exact zDy_to (h6 j (by omega)) hn (zSame_ne (by omega)) (fun q hq => zcp_out (by omega))
  · exact zDy_to (h10 j hj) hn (zSame_ne (by omega)) (fun q hq => zcp_out (by omega))
theorem zR3_keep (h : zR3 n kn dn dh dw dk de dx dt ps pd ks kq sl don kep) (hn : n ≤ 6) (hk : ks ≠ 2) : zR3 n kn (va_up dn (kq ks) (dn 0)) (va_up dh (kq ks) (dh 0)) (va_up dw (kq ks) (dw 0)) (va_up dk (kq ks) (dk 0)) (va_up de (kq ks) (de 0)) (va_up dx (kq ks) (dx 0)) (va_up dt (kq ks) (dt 0)) ps pd (ks + 1) kq (zcp sl 0 (kep + 1) 61) don (kep + 1) := by
  obtain ⟨h1, h2, h3, h4, h5, h6, h7, h8, h9, h10⟩ := h
  subst h7
  rw [h9 ks (by omega)]
  refine ⟨zDy_to h1 hn (zSame_ne (by omega)) (fun q hq => zcp_out (by omega)), h2, h3, h4, h5, fun j hj => ?_, rfl, by omega, h9, fun j hj => ?_⟩
  · have := h4 j (by omega)
    exact zDy_to (h6 j hj) hn (zSame_ne (by omega)) (fun q hq => zcp_out (by omega))
  · by_cases c : j = ks
    · subst c
      refine zDy_to h1 hn zSame_at (fun q hq => ?_)
      rw [Nat.add_comm 1 j]; exact zcp_in hq
    · exact zDy_to (h10 j (by omega)) hn (zSame_ne (by omega)) (fun q hq => zcp_out (by omega))
theorem zR3_back (h : zR3 n kn dn dh dw dk de dx dt ps pd ks kq sl don kep) (hn : n ≤ 6) (hk : ks ≠ 0) : zR3 n kn (va_up dn 0 (dn (kq (ks - 1)))) (va_up dh 0 (dh (kq (ks - 1)))) (va_up dw 0 (dw (kq (ks - 1)))) (va_up dk 0 (dk (kq (ks - 1)))) (va_up de 0 (de (kq (ks - 1)))) (va_up dx 0 (dx (kq (ks - 1)))) (va_up dt 0 (dt (kq (ks - 1)))) 0 pd (ks - 1) kq (zcp sl kep 0 61) 0 (kep - 1) := by
  obtain ⟨h1, h2, h3, h4, h5, h6, h7, h8, h9, h10⟩ := h
  subst h7
  rw [h9 (ks - 1) (by omega)]
  refine ⟨zDy_to (h10 (ks - 1) (by omega)) hn zSame_at (fun q hq => ?_), rfl, by omega, h4, h5, fun j hj => by omega, rfl, by omega, h9, fun j hj => ?_⟩
  · rw [zcp_in hq]; congr 2; omega
  · exact zDy_to (h10 j (by omega)) hn (zSame_ne (by omega)) (fun q hq => zcp_out (by omega))
end
/-- a dawn -/
theorem zlots_c {z d s n : Nat} : ∀ {k : Nat} {f g : Nat → Nat}, k < n → (∀ i, i < n → f i = g (s + i)) → ∀ i, i < n → zlots z d 0 k f i = zlots z d s k g (s + i)
  | 0, _, _, _, h => h
  | k + 1, f, g, hk, h => by
    have hq := zq_le z (k + 1) d
    unfold zlots
    refine zlots_c (by omega) (fun i hi => ?_)
    unfold zsw va_up
    simp only [Nat.zero_add]
    by_cases c1 : i = zq z (k + 1) d
    · have d1 : s + i = s + zq z (k + 1) d := by omega
      rw [if_pos c1, if_pos d1]; exact h _ (by omega)
    · have d1 : ¬ s + i = s + zq z (k + 1) d := by omega
      rw [if_neg c1, if_neg d1]
      by_cases c2 : i = k + 1
      · have d2 : s + i = s + (k + 1) := by omega
        rw [if_pos c2, if_pos d2]; exact h _ (by omega)
      · have d2 : ¬ s + i = s + (k + 1) := by omega
        rw [if_neg c2, if_neg d2]; exact h i hi
theorem zDR_dawn {n kn N H z s : Nat} {W F E X T wg sl kd : Nat → Nat} (h : zDR n kn N H W F E X T (fun j => sl (61 * s + j))) (hn : 1 ≤ n ∧ n ≤ 6) (hk : kn ≤ 5) (hg : ∀ k, k < kn → wg k = kd (3 * k + 1)) : zDR n kn (N + 1) H (zlots z (N + 1) 0 (n - 1) W) F (zdE E wg (fun j => F (W j)) n) X (zdT T (fun j => F (W j)) n) (fun j => zdawn sl kd s z n (61 * s + j)) := by
  obtain ⟨h1, h2, h3, h4, h5, h6, h7, h8, h9, h10⟩ := h
  dsimp only at h1 h3 h4 h6 h7 h8 h9 h10
  have kk : ∀ i, i < n → zkk sl s i = F (W i) := by
    intro i hi
    unfold zkk
    have e := (h7 (W i) (h5 i (by omega))).1
    rw [e, ← h4 i hi, Nat.add_assoc]
  have out : ∀ j, 6 ≤ j → j < 60 → zdawn sl kd s z n (61 * s + j) = zpay sl kd s n (61 * s + j) := by
    intro j hj hj2
    unfold zdawn
    rw [zlots_out (by omega) (by omega), va_up_ne _ _ (by omega)]
  refine ⟨?_, h2, fun i hi => ?_, fun i hi => ?_, fun i hi => ?_, fun i hi => ?_, fun m hm => ?_, fun i hi => ?_, fun i hi => ?_, fun q hq => ?_⟩
  · show N + 1 = zdawn sl kd s z n (61 * s + 60)
    rw [zdawn_d hn.2, h1]
  · show zdawn sl kd s z n (61 * s + (12 + i)) = _
    rw [out _ (by omega) (by omega), zpay_lo (by omega)]; exact h3 i hi
  · show _ = zdawn sl kd s z n (61 * s + i)
    unfold zdawn
    rw [h1]
    refine zlots_c (n := n) (s := 61 * s) (by omega) (fun q hq => ?_) i hi
    rw [va_up_ne _ _ (by omega), zpay_lo (by omega)]; exact h4 q hq
  · have e := zlots_lt (z := z) (d := N + 1) (s := 0) (c := 6) (k := n - 1) (f := W) (by omega) (fun j hj => by rw [Nat.zero_add]; exact h5 j hj) i hi
    rw [Nat.zero_add] at e; exact e
  · exact zdawn_w hn.2 h6 i hi
  · show F m = zdawn sl kd s z n (61 * s + (6 + m)) ∧ _
    rw [← Nat.add_assoc, zdawn_k hn.2 hm, Nat.add_assoc]; exact h7 m hm
  · show zdE E wg (fun j => F (W j)) n i = zdawn sl kd s z n (61 * s + (18 + i))
    rw [out _ (by omega) (by omega)]
    unfold zdE zpay
    by_cases c : i < n
    · have hk2 := (h7 (W i) (h5 i (by omega))).2
      rw [if_pos c, if_pos (by omega), show 61 * s + (18 + i) - 61 * s - 18 = i by omega, kk i c, ← hg _ hk2, h8 i hi]
    · rw [if_neg c, if_neg (by omega), if_neg (by omega)]; exact h8 i hi
  · show X i = zdawn sl kd s z n (61 * s + (24 + i))
    rw [out _ (by omega) (by omega)]
    unfold zpay
    rw [if_neg (by omega), if_neg (by omega)]; exact h9 i hi
  · show zdT T (fun j => F (W j)) n q = zdawn sl kd s z n (61 * s + (30 + q)) ∧ zdT T (fun j => F (W j)) n q ≤ N + 1
    obtain ⟨t1, t2⟩ := h10 q hq
    refine ⟨?_, ?_⟩
    · rw [out _ (by omega) (by omega)]
      unfold zdT zpay
      rw [if_neg (show ¬ (61 * s + 18 ≤ 61 * s + (30 + q) ∧ 61 * s + (30 + q) < 61 * s + 18 + n) by omega), show 61 * s + (30 + q) - 61 * s - 30 = q by omega]
      by_cases c : q < 5 * n
      · have c2 : q / 5 < n := by omega
        rw [kk _ c2]
        by_cases c3 : q % 5 = F (W (q / 5))
        · rw [if_pos ⟨c, c3⟩, if_pos ⟨by omega, by omega, c3⟩, t1]
        · rw [if_neg (fun y => c3 y.2), if_neg (fun y => c3 y.2.2), t1]
      · rw [if_neg (fun y => c y.1), if_neg (by omega), t1]
    · unfold zdT
      split <;> omega
