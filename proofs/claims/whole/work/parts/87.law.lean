/-! ===== the law: one call ===== -/
theorem zsc {p L : Nat} (h : p < L) (hL : L ≤ 2560) : ¬ nI p < 0 ∧ (nI p).toNatClampNeg < L := by
  rw [zn_lt0 (by omega), nI_clamp (by omega)]; exact ⟨id, h⟩
theorem zpos5 {L : Nat} (h : 5 ≤ L) : nI L - nI 5 = nI (L - 5) := pk_sub h
theorem zRel_7 {h : ZH} (hr : zRel h) : ztag h 0 = some 7 := by
  obtain ⟨tl, tp, tb, cu, tk, tq, tm, tw, tc, tr, tg, tt, ts, tv, dn, dh, dw, dk, de, dx, dt, ps, pd, ks, kq, ss, sc, sn, wm, wb, wr, wp, wt, aw, ak, av, ap, an, aq, al, len, at_, kep, don, see, fit, tx, td, ki, kd, pe, sk, wo, sl, sa, wy, be, po, mh, go, rfl, hR⟩ := hr
  exact kt_main
section
variable {xs : Nat → Int32} {L p : Nat} {h : ZH}
theorem d_write (hr : zRel h) {n : Int32} {v : Int64} : zDo xs L 59 [.ref 0, .int n, .long v, .null] 103 [.ref 104, .int n, .long v, .null, .null] h := by
  obtain ⟨tl, tp, tb, cu, tk, tq, tm, tw, tc, tr, tg, tt, ts, tv, dn, dh, dw, dk, de, dx, dt, ps, pd, ks, kq, ss, sc, sn, wm, wb, wr, wp, wt, aw, ak, av, ap, an, aq, al, len, at_, kep, don, see, fit, tx, td, ki, kd, pe, sk, wo, sl, sa, wy, be, po, mh, go, rfl, hR⟩ := hr
  exact b_write hR
theorem d_wipe (hr : zRel h)  : zDo xs L 60 [.ref 0, .null] 104 [.ref 104, .null] h := by
  obtain ⟨tl, tp, tb, cu, tk, tq, tm, tw, tc, tr, tg, tt, ts, tv, dn, dh, dw, dk, de, dx, dt, ps, pd, ks, kq, ss, sc, sn, wm, wb, wr, wp, wt, aw, ak, av, ap, an, aq, al, len, at_, kep, don, see, fit, tx, td, ki, kd, pe, sk, wo, sl, sa, wy, be, po, mh, go, rfl, hR⟩ := hr
  exact b_wipe hR
theorem d_fault (hr : zRel h)  : zDo xs L 61 [.ref 0] 112 [.ref 104, .null] h := by
  obtain ⟨tl, tp, tb, cu, tk, tq, tm, tw, tc, tr, tg, tt, ts, tv, dn, dh, dw, dk, de, dx, dt, ps, pd, ks, kq, ss, sc, sn, wm, wb, wr, wp, wt, aw, ak, av, ap, an, aq, al, len, at_, kep, don, see, fit, tx, td, ki, kd, pe, sk, wo, sl, sa, wy, be, po, mh, go, rfl, hR⟩ := hr
  exact b_fault hR
theorem d_lay (hr : zRel h)  : zDo xs L 62 [.ref 0, .null] 113 [.ref 104] h := by
  obtain ⟨tl, tp, tb, cu, tk, tq, tm, tw, tc, tr, tg, tt, ts, tv, dn, dh, dw, dk, de, dx, dt, ps, pd, ks, kq, ss, sc, sn, wm, wb, wr, wp, wt, aw, ak, av, ap, an, aq, al, len, at_, kep, don, see, fit, tx, td, ki, kd, pe, sk, wo, sl, sa, wy, be, po, mh, go, rfl, hR⟩ := hr
  exact b_lay hR
theorem d_person (hr : zRel h) {i w : Int32} : zDo xs L 63 [.ref 0, .int i, .int w] 117 [.ref 104, .int i, .int w] h := by
  obtain ⟨tl, tp, tb, cu, tk, tq, tm, tw, tc, tr, tg, tt, ts, tv, dn, dh, dw, dk, de, dx, dt, ps, pd, ks, kq, ss, sc, sn, wm, wb, wr, wp, wt, aw, ak, av, ap, an, aq, al, len, at_, kep, don, see, fit, tx, td, ki, kd, pe, sk, wo, sl, sa, wy, be, po, mh, go, rfl, hR⟩ := hr
  exact b_person hR
theorem d_had (hr : zRel h) {i k : Int32} : zDo xs L 64 [.ref 0, .int i, .int k] 118 [.ref 104, .int i, .int k] h := by
  obtain ⟨tl, tp, tb, cu, tk, tq, tm, tw, tc, tr, tg, tt, ts, tv, dn, dh, dw, dk, de, dx, dt, ps, pd, ks, kq, ss, sc, sn, wm, wb, wr, wp, wt, aw, ak, av, ap, an, aq, al, len, at_, kep, don, see, fit, tx, td, ki, kd, pe, sk, wo, sl, sa, wy, be, po, mh, go, rfl, hR⟩ := hr
  exact b_had hR
theorem d_mask (hr : zRel h) {i w : Int32} : zDo xs L 65 [.ref 0, .int i, .int w, .null] 119 [.ref 104, .int i, .int w, .null] h := by
  obtain ⟨tl, tp, tb, cu, tk, tq, tm, tw, tc, tr, tg, tt, ts, tv, dn, dh, dw, dk, de, dx, dt, ps, pd, ks, kq, ss, sc, sn, wm, wb, wr, wp, wt, aw, ak, av, ap, an, aq, al, len, at_, kep, don, see, fit, tx, td, ki, kd, pe, sk, wo, sl, sa, wy, be, po, mh, go, rfl, hR⟩ := hr
  exact b_mask hR
theorem d_dawn (hr : zRel h) {z : Int32} : zDo xs L 66 [.ref 0, .int z] 123 [.ref 104, .int z] h := by
  obtain ⟨tl, tp, tb, cu, tk, tq, tm, tw, tc, tr, tg, tt, ts, tv, dn, dh, dw, dk, de, dx, dt, ps, pd, ks, kq, ss, sc, sn, wm, wb, wr, wp, wt, aw, ak, av, ap, an, aq, al, len, at_, kep, don, see, fit, tx, td, ki, kd, pe, sk, wo, sl, sa, wy, be, po, mh, go, rfl, hR⟩ := hr
  exact b_dawn hR
theorem d_change (hr : zRel h) {i j : Int32} : zDo xs L 67 [.ref 0, .int i, .int j] 126 [.ref 104, .int i, .int j] h := by
  obtain ⟨tl, tp, tb, cu, tk, tq, tm, tw, tc, tr, tg, tt, ts, tv, dn, dh, dw, dk, de, dx, dt, ps, pd, ks, kq, ss, sc, sn, wm, wb, wr, wp, wt, aw, ak, av, ap, an, aq, al, len, at_, kep, don, see, fit, tx, td, ki, kd, pe, sk, wo, sl, sa, wy, be, po, mh, go, rfl, hR⟩ := hr
  exact b_change hR
theorem d_deed (hr : zRel h) {i d : Int32} : zDo xs L 68 [.ref 0, .int i, .int d] 128 [.ref 104, .int i, .int d] h := by
  obtain ⟨tl, tp, tb, cu, tk, tq, tm, tw, tc, tr, tg, tt, ts, tv, dn, dh, dw, dk, de, dx, dt, ps, pd, ks, kq, ss, sc, sn, wm, wb, wr, wp, wt, aw, ak, av, ap, an, aq, al, len, at_, kep, don, see, fit, tx, td, ki, kd, pe, sk, wo, sl, sa, wy, be, po, mh, go, rfl, hR⟩ := hr
  exact b_deed hR
theorem d_sentence (hr : zRel h) {i j : Int32} : zDo xs L 69 [.ref 0, .int i, .int j] 131 [.ref 104, .int i, .int j] h := by
  obtain ⟨tl, tp, tb, cu, tk, tq, tm, tw, tc, tr, tg, tt, ts, tv, dn, dh, dw, dk, de, dx, dt, ps, pd, ks, kq, ss, sc, sn, wm, wb, wr, wp, wt, aw, ak, av, ap, an, aq, al, len, at_, kep, don, see, fit, tx, td, ki, kd, pe, sk, wo, sl, sa, wy, be, po, mh, go, rfl, hR⟩ := hr
  exact b_sentence hR
theorem d_pardon (hr : zRel h) {i j : Int32} : zDo xs L 70 [.ref 0, .int i, .int j] 132 [.ref 104, .int i, .int j] h := by
  obtain ⟨tl, tp, tb, cu, tk, tq, tm, tw, tc, tr, tg, tt, ts, tv, dn, dh, dw, dk, de, dx, dt, ps, pd, ks, kq, ss, sc, sn, wm, wb, wr, wp, wt, aw, ak, av, ap, an, aq, al, len, at_, kep, don, see, fit, tx, td, ki, kd, pe, sk, wo, sl, sa, wy, be, po, mh, go, rfl, hR⟩ := hr
  exact b_pardon hR
theorem d_undo (hr : zRel h)  : zDo xs L 71 [.ref 0] 133 [.ref 104] h := by
  obtain ⟨tl, tp, tb, cu, tk, tq, tm, tw, tc, tr, tg, tt, ts, tv, dn, dh, dw, dk, de, dx, dt, ps, pd, ks, kq, ss, sc, sn, wm, wb, wr, wp, wt, aw, ak, av, ap, an, aq, al, len, at_, kep, don, see, fit, tx, td, ki, kd, pe, sk, wo, sl, sa, wy, be, po, mh, go, rfl, hR⟩ := hr
  exact b_undo hR
theorem d_chance (hr : zRel h) {i : Int32} : zDo xs L 72 [.ref 0, .int i, .null, .null, .null] 138 [.ref 104, .int i, .null, .null, .null, .null] h := by
  obtain ⟨tl, tp, tb, cu, tk, tq, tm, tw, tc, tr, tg, tt, ts, tv, dn, dh, dw, dk, de, dx, dt, ps, pd, ks, kq, ss, sc, sn, wm, wb, wr, wp, wt, aw, ak, av, ap, an, aq, al, len, at_, kep, don, see, fit, tx, td, ki, kd, pe, sk, wo, sl, sa, wy, be, po, mh, go, rfl, hR⟩ := hr
  exact b_chance hR
theorem d_anew (hr : zRel h) {i : Int32} : zDo xs L 73 [.ref 0, .int i, .null] 139 [.ref 104, .int i, .null, .null, .null, .null, .null, .null, .null] h := by
  obtain ⟨tl, tp, tb, cu, tk, tq, tm, tw, tc, tr, tg, tt, ts, tv, dn, dh, dw, dk, de, dx, dt, ps, pd, ks, kq, ss, sc, sn, wm, wb, wr, wp, wt, aw, ak, av, ap, an, aq, al, len, at_, kep, don, see, fit, tx, td, ki, kd, pe, sk, wo, sl, sa, wy, be, po, mh, go, rfl, hR⟩ := hr
  exact b_anew hR
theorem d_liked (hr : zRel h) {i : Int32} : zDo xs L 74 [.ref 0, .int i] 142 [.ref 104, .int i, .null, .null, .null] h := by
  obtain ⟨tl, tp, tb, cu, tk, tq, tm, tw, tc, tr, tg, tt, ts, tv, dn, dh, dw, dk, de, dx, dt, ps, pd, ks, kq, ss, sc, sn, wm, wb, wr, wp, wt, aw, ak, av, ap, an, aq, al, len, at_, kep, don, see, fit, tx, td, ki, kd, pe, sk, wo, sl, sa, wy, be, po, mh, go, rfl, hR⟩ := hr
  exact b_liked hR
theorem d_allChange (hr : zRel h) {i : Int32} : zDo xs L 75 [.ref 0, .int i, .null] 143 [.ref 104, .int i, .null, .null] h := by
  obtain ⟨tl, tp, tb, cu, tk, tq, tm, tw, tc, tr, tg, tt, ts, tv, dn, dh, dw, dk, de, dx, dt, ps, pd, ks, kq, ss, sc, sn, wm, wb, wr, wp, wt, aw, ak, av, ap, an, aq, al, len, at_, kep, don, see, fit, tx, td, ki, kd, pe, sk, wo, sl, sa, wy, be, po, mh, go, rfl, hR⟩ := hr
  exact b_all hR
theorem d_rounds (hr : zRel h) {i : Int32} : zDo xs L 76 [.ref 0, .int i] 145 [.ref 104, .int i, .null, .null, .null, .null, .null] h := by
  obtain ⟨tl, tp, tb, cu, tk, tq, tm, tw, tc, tr, tg, tt, ts, tv, dn, dh, dw, dk, de, dx, dt, ps, pd, ks, kq, ss, sc, sn, wm, wb, wr, wp, wt, aw, ak, av, ap, an, aq, al, len, at_, kep, don, see, fit, tx, td, ki, kd, pe, sk, wo, sl, sa, wy, be, po, mh, go, rfl, hR⟩ := hr
  exact b_rounds hR
theorem d_seen (hr : zRel h) {i d y : Int32} : zDo xs L 77 [.ref 0, .int i, .int d, .int y] 146 [.ref 104, .int i, .int d, .int y] h := by
  obtain ⟨tl, tp, tb, cu, tk, tq, tm, tw, tc, tr, tg, tt, ts, tv, dn, dh, dw, dk, de, dx, dt, ps, pd, ks, kq, ss, sc, sn, wm, wb, wr, wp, wt, aw, ak, av, ap, an, aq, al, len, at_, kep, don, see, fit, tx, td, ki, kd, pe, sk, wo, sl, sa, wy, be, po, mh, go, rfl, hR⟩ := hr
  exact b_seen hR
theorem d_forget (hr : zRel h)  : zDo xs L 78 [.ref 0, .null] 147 [.ref 104, .null] h := by
  obtain ⟨tl, tp, tb, cu, tk, tq, tm, tw, tc, tr, tg, tt, ts, tv, dn, dh, dw, dk, de, dx, dt, ps, pd, ks, kq, ss, sc, sn, wm, wb, wr, wp, wt, aw, ak, av, ap, an, aq, al, len, at_, kep, don, see, fit, tx, td, ki, kd, pe, sk, wo, sl, sa, wy, be, po, mh, go, rfl, hR⟩ := hr
  exact b_forget hR
theorem d_fits (hr : zRel h)  : zDo xs L 79 [.ref 0] 149 [.ref 104] h := by
  obtain ⟨tl, tp, tb, cu, tk, tq, tm, tw, tc, tr, tg, tt, ts, tv, dn, dh, dw, dk, de, dx, dt, ps, pd, ks, kq, ss, sc, sn, wm, wb, wr, wp, wt, aw, ak, av, ap, an, aq, al, len, at_, kep, don, see, fit, tx, td, ki, kd, pe, sk, wo, sl, sa, wy, be, po, mh, go, rfl, hR⟩ := hr
  exact b_fits hR
theorem d_sure (hr : zRel h) {i : Int32} : zDo xs L 80 [.ref 0, .int i] 150 [.ref 104, .int i] h := by
  obtain ⟨tl, tp, tb, cu, tk, tq, tm, tw, tc, tr, tg, tt, ts, tv, dn, dh, dw, dk, de, dx, dt, ps, pd, ks, kq, ss, sc, sn, wm, wb, wr, wp, wt, aw, ak, av, ap, an, aq, al, len, at_, kep, don, see, fit, tx, td, ki, kd, pe, sk, wo, sl, sa, wy, be, po, mh, go, rfl, hR⟩ := hr
  exact b_sure hR
theorem d_fairest (hr : zRel h) {i : Int32} : zDo xs L 81 [.ref 0, .int i, .null] 151 [.ref 104, .int i, .null, .null, .null, .null] h := by
  obtain ⟨tl, tp, tb, cu, tk, tq, tm, tw, tc, tr, tg, tt, ts, tv, dn, dh, dw, dk, de, dx, dt, ps, pd, ks, kq, ss, sc, sn, wm, wb, wr, wp, wt, aw, ak, av, ap, an, aq, al, len, at_, kep, don, see, fit, tx, td, ki, kd, pe, sk, wo, sl, sa, wy, be, po, mh, go, rfl, hR⟩ := hr
  exact b_fair hR
theorem d_make (hr : zRel h) {i k : Int32} : zDo xs L 82 [.ref 0, .int i, .int k, .null] 152 [.ref 104, .int i, .int k, .null] h := by
  obtain ⟨tl, tp, tb, cu, tk, tq, tm, tw, tc, tr, tg, tt, ts, tv, dn, dh, dw, dk, de, dx, dt, ps, pd, ks, kq, ss, sc, sn, wm, wb, wr, wp, wt, aw, ak, av, ap, an, aq, al, len, at_, kep, don, see, fit, tx, td, ki, kd, pe, sk, wo, sl, sa, wy, be, po, mh, go, rfl, hR⟩ := hr
  exact b_make hR
theorem d_falseOne (hr : zRel h)  : zDo xs L 83 [.ref 0, .null, .null, .null] 153 [.ref 104, .null, .null, .null] h := by
  obtain ⟨tl, tp, tb, cu, tk, tq, tm, tw, tc, tr, tg, tt, ts, tv, dn, dh, dw, dk, de, dx, dt, ps, pd, ks, kq, ss, sc, sn, wm, wb, wr, wp, wt, aw, ak, av, ap, an, aq, al, len, at_, kep, don, see, fit, tx, td, ki, kd, pe, sk, wo, sl, sa, wy, be, po, mh, go, rfl, hR⟩ := hr
  exact b_false hR
theorem d_year (hr : zRel h) {z n i y : Int32} : zDo xs L 84 [.ref 0, .int z, .int n, .int i, .int y, .null] 154 [.ref 104, .int z, .int n, .int i, .int y, .null] h := by
  obtain ⟨tl, tp, tb, cu, tk, tq, tm, tw, tc, tr, tg, tt, ts, tv, dn, dh, dw, dk, de, dx, dt, ps, pd, ks, kq, ss, sc, sn, wm, wb, wr, wp, wt, aw, ak, av, ap, an, aq, al, len, at_, kep, don, see, fit, tx, td, ki, kd, pe, sk, wo, sl, sa, wy, be, po, mh, go, rfl, hR⟩ := hr
  exact b_year hR
theorem d_keep (hr : zRel h)  : zDo xs L 85 [.ref 0] 155 [.ref 104] h := by
  obtain ⟨tl, tp, tb, cu, tk, tq, tm, tw, tc, tr, tg, tt, ts, tv, dn, dh, dw, dk, de, dx, dt, ps, pd, ks, kq, ss, sc, sn, wm, wb, wr, wp, wt, aw, ak, av, ap, an, aq, al, len, at_, kep, don, see, fit, tx, td, ki, kd, pe, sk, wo, sl, sa, wy, be, po, mh, go, rfl, hR⟩ := hr
  exact b_keep hR
theorem d_back (hr : zRel h)  : zDo xs L 86 [.ref 0] 156 [.ref 104] h := by
  obtain ⟨tl, tp, tb, cu, tk, tq, tm, tw, tc, tr, tg, tt, ts, tv, dn, dh, dw, dk, de, dx, dt, ps, pd, ks, kq, ss, sc, sn, wm, wb, wr, wp, wt, aw, ak, av, ap, an, aq, al, len, at_, kep, don, see, fit, tx, td, ki, kd, pe, sk, wo, sl, sa, wy, be, po, mh, go, rfl, hR⟩ := hr
  exact b_back hR
theorem d_count (hr : zRel h) {w : Int32} : zDo xs L 87 [.ref 0, .int w] 157 [.ref 104, .int w] h := by
  obtain ⟨tl, tp, tb, cu, tk, tq, tm, tw, tc, tr, tg, tt, ts, tv, dn, dh, dw, dk, de, dx, dt, ps, pd, ks, kq, ss, sc, sn, wm, wb, wr, wp, wt, aw, ak, av, ap, an, aq, al, len, at_, kep, don, see, fit, tx, td, ki, kd, pe, sk, wo, sl, sa, wy, be, po, mh, go, rfl, hR⟩ := hr
  exact b_count hR
theorem w_0 (hr : zRel h) (hL : L ≤ 2560) (hp : p + 5 ≤ L) (hx : xs p &&& nI 31 = nI 0) : ∃ h2, zRel h2 ∧ zev xs L 161 18 [.float 0, .ref 0, .ref 104, .int (nI p)] [] h = zev xs L 161 18 [.float 0, .ref 0, .ref 104, .int (nI (p + 5))] [] h2 := by
  have ht7 := zRel_7 hr
  have h5 : ¬ L - 5 < p := by omega
  obtain ⟨x, h1, h2, e1, e2, ht8, hr2⟩ := d_write (xs := xs) (L := L) hr (n := xs (p + 1)) (v := ((xs (p + 2)).toInt64 <<< ((nI 32).toInt64 &&& 63)) ||| ((xs (p + 3)).toInt64 &&& lN 4294967295))
  refine ⟨h2, hr2, ?_⟩
  conv => lhs; rw [q161_18]
  simp (disch := first | omega | exact zsc (by omega) hL | exact ht7 | exact ht8) only [q161_19, q161_20, q161_21, q161_22, q161_23, q161_26, q161_27, q161_28, q161_29, q161_31, q161_32_0, q161_164, q161_165, q161_166, q161_167, q161_168, q161_169, q161_170, q161_171, q161_172, q161_173, q161_174, q161_175, q161_176, q161_178, q161_179, q161_180, q161_181, q161_182, q161_183, q161_184, q161_185, q161_188, q161_189, q161_190, q161_193, q161_194, q161_195, q161_196, q161_197, q161_198, q161_199, q161_200, q161_201, q161_202, q161_203, q161_204, q161_205, q161_207, q161_208, q161_209, q161_210, q161_211, q161_212, q161_213, q161_214, q161_217, q161_218, q161_219, q161_222, q161_225, q161_226, q161_927, q161_930, e1, e2, hx, h5, nI_add, zpos5, nI_clamp, zn_lt, ite_not, Option.bind_some, Option.bind_none, Option.toList_some, Option.toList_none, List.cons_append, List.nil_append, if_true, if_false, zif_t, zif_f, eq_self]
theorem w_1 (hr : zRel h) (hL : L ≤ 2560) (hp : p + 5 ≤ L) (hx : xs p &&& nI 31 = nI 1) : ∃ h2, zRel h2 ∧ zev xs L 161 18 [.float 0, .ref 0, .ref 104, .int (nI p)] [] h = zev xs L 161 18 [.float 0, .ref 0, .ref 104, .int (nI (p + 5))] [] h2 := by
  have ht7 := zRel_7 hr
  have h5 : ¬ L - 5 < p := by omega
  obtain ⟨x, h1, h2, e1, e2, ht8, hr2⟩ := d_wipe (xs := xs) (L := L) hr 
  refine ⟨h2, hr2, ?_⟩
  conv => lhs; rw [q161_18]
  simp (disch := first | omega | exact zsc (by omega) hL | exact ht7 | exact ht8) only [q161_19, q161_20, q161_21, q161_22, q161_23, q161_26, q161_27, q161_28, q161_29, q161_31, q161_32_1, q161_227, q161_228, q161_231, q161_232, q161_235, q161_238, q161_239, q161_927, q161_930, e1, e2, hx, h5, nI_add, zpos5, nI_clamp, zn_lt, ite_not, Option.bind_some, Option.bind_none, Option.toList_some, Option.toList_none, List.cons_append, List.nil_append, if_true, if_false, zif_t, zif_f, eq_self]
theorem w_2 (hr : zRel h) (hL : L ≤ 2560) (hp : p + 5 ≤ L) (hx : xs p &&& nI 31 = nI 2) : ∃ h2, zRel h2 ∧ zev xs L 161 18 [.float 0, .ref 0, .ref 104, .int (nI p)] [] h = zev xs L 161 18 [.float 0, .ref 0, .ref 104, .int (nI (p + 5))] [] h2 := by
  have ht7 := zRel_7 hr
  have h5 : ¬ L - 5 < p := by omega
  obtain ⟨x, h1, h2, e1, e2, ht8, hr2⟩ := d_fault (xs := xs) (L := L) hr 
  refine ⟨h2, hr2, ?_⟩
  conv => lhs; rw [q161_18]
  simp (disch := first | omega | exact zsc (by omega) hL | exact ht7 | exact ht8) only [q161_19, q161_20, q161_21, q161_22, q161_23, q161_26, q161_27, q161_28, q161_29, q161_31, q161_32_2, q161_240, q161_241, q161_244, q161_245, q161_248, q161_251, q161_252, q161_927, q161_930, e1, e2, hx, h5, nI_add, zpos5, nI_clamp, zn_lt, ite_not, Option.bind_some, Option.bind_none, Option.toList_some, Option.toList_none, List.cons_append, List.nil_append, if_true, if_false, zif_t, zif_f, eq_self]
theorem w_3 (hr : zRel h) (hL : L ≤ 2560) (hp : p + 5 ≤ L) (hx : xs p &&& nI 31 = nI 3) : ∃ h2, zRel h2 ∧ zev xs L 161 18 [.float 0, .ref 0, .ref 104, .int (nI p)] [] h = zev xs L 161 18 [.float 0, .ref 0, .ref 104, .int (nI (p + 5))] [] h2 := by
  have ht7 := zRel_7 hr
  have h5 : ¬ L - 5 < p := by omega
  obtain ⟨x, h1, h2, e1, e2, ht8, hr2⟩ := d_lay (xs := xs) (L := L) hr 
  refine ⟨h2, hr2, ?_⟩
  conv => lhs; rw [q161_18]
  simp (disch := first | omega | exact zsc (by omega) hL | exact ht7 | exact ht8) only [q161_19, q161_20, q161_21, q161_22, q161_23, q161_26, q161_27, q161_28, q161_29, q161_31, q161_32_3, q161_253, q161_254, q161_257, q161_258, q161_261, q161_264, q161_265, q161_927, q161_930, e1, e2, hx, h5, nI_add, zpos5, nI_clamp, zn_lt, ite_not, Option.bind_some, Option.bind_none, Option.toList_some, Option.toList_none, List.cons_append, List.nil_append, if_true, if_false, zif_t, zif_f, eq_self]
theorem w_4 (hr : zRel h) (hL : L ≤ 2560) (hp : p + 5 ≤ L) (hx : xs p &&& nI 31 = nI 4) : ∃ h2, zRel h2 ∧ zev xs L 161 18 [.float 0, .ref 0, .ref 104, .int (nI p)] [] h = zev xs L 161 18 [.float 0, .ref 0, .ref 104, .int (nI (p + 5))] [] h2 := by
  have ht7 := zRel_7 hr
  have h5 : ¬ L - 5 < p := by omega
  obtain ⟨x, h1, h2, e1, e2, ht8, hr2⟩ := d_person (xs := xs) (L := L) hr (i := xs (p + 1)) (w := xs (p + 2))
  refine ⟨h2, hr2, ?_⟩
  conv => lhs; rw [q161_18]
  simp (disch := first | omega | exact zsc (by omega) hL | exact ht7 | exact ht8) only [q161_19, q161_20, q161_21, q161_22, q161_23, q161_26, q161_27, q161_28, q161_29, q161_31, q161_32_4, q161_266, q161_267, q161_268, q161_269, q161_270, q161_271, q161_272, q161_273, q161_274, q161_275, q161_276, q161_277, q161_280, q161_281, q161_282, q161_283, q161_284, q161_285, q161_286, q161_287, q161_288, q161_289, q161_290, q161_291, q161_294, q161_297, q161_298, q161_927, q161_930, e1, e2, hx, h5, nI_add, zpos5, nI_clamp, zn_lt, ite_not, Option.bind_some, Option.bind_none, Option.toList_some, Option.toList_none, List.cons_append, List.nil_append, if_true, if_false, zif_t, zif_f, eq_self]
theorem w_5 (hr : zRel h) (hL : L ≤ 2560) (hp : p + 5 ≤ L) (hx : xs p &&& nI 31 = nI 5) : ∃ h2, zRel h2 ∧ zev xs L 161 18 [.float 0, .ref 0, .ref 104, .int (nI p)] [] h = zev xs L 161 18 [.float 0, .ref 0, .ref 104, .int (nI (p + 5))] [] h2 := by
  have ht7 := zRel_7 hr
  have h5 : ¬ L - 5 < p := by omega
  obtain ⟨x, h1, h2, e1, e2, ht8, hr2⟩ := d_had (xs := xs) (L := L) hr (i := xs (p + 1)) (k := xs (p + 2))
  refine ⟨h2, hr2, ?_⟩
  conv => lhs; rw [q161_18]
  simp (disch := first | omega | exact zsc (by omega) hL | exact ht7 | exact ht8) only [q161_19, q161_20, q161_21, q161_22, q161_23, q161_26, q161_27, q161_28, q161_29, q161_31, q161_32_5, q161_299, q161_300, q161_301, q161_302, q161_303, q161_304, q161_305, q161_306, q161_307, q161_308, q161_309, q161_310, q161_313, q161_314, q161_315, q161_316, q161_317, q161_318, q161_319, q161_320, q161_321, q161_322, q161_323, q161_324, q161_327, q161_330, q161_331, q161_927, q161_930, e1, e2, hx, h5, nI_add, zpos5, nI_clamp, zn_lt, ite_not, Option.bind_some, Option.bind_none, Option.toList_some, Option.toList_none, List.cons_append, List.nil_append, if_true, if_false, zif_t, zif_f, eq_self]
theorem w_6 (hr : zRel h) (hL : L ≤ 2560) (hp : p + 5 ≤ L) (hx : xs p &&& nI 31 = nI 6) : ∃ h2, zRel h2 ∧ zev xs L 161 18 [.float 0, .ref 0, .ref 104, .int (nI p)] [] h = zev xs L 161 18 [.float 0, .ref 0, .ref 104, .int (nI (p + 5))] [] h2 := by
  have ht7 := zRel_7 hr
  have h5 : ¬ L - 5 < p := by omega
  obtain ⟨x, h1, h2, e1, e2, ht8, hr2⟩ := d_mask (xs := xs) (L := L) hr (i := xs (p + 1)) (w := xs (p + 2))
  refine ⟨h2, hr2, ?_⟩
  conv => lhs; rw [q161_18]
  simp (disch := first | omega | exact zsc (by omega) hL | exact ht7 | exact ht8) only [q161_19, q161_20, q161_21, q161_22, q161_23, q161_26, q161_27, q161_28, q161_29, q161_31, q161_32_6, q161_332, q161_333, q161_334, q161_335, q161_336, q161_337, q161_338, q161_339, q161_340, q161_341, q161_342, q161_343, q161_346, q161_347, q161_348, q161_349, q161_350, q161_351, q161_352, q161_353, q161_354, q161_355, q161_356, q161_357, q161_360, q161_363, q161_364, q161_927, q161_930, e1, e2, hx, h5, nI_add, zpos5, nI_clamp, zn_lt, ite_not, Option.bind_some, Option.bind_none, Option.toList_some, Option.toList_none, List.cons_append, List.nil_append, if_true, if_false, zif_t, zif_f, eq_self]
theorem w_7 (hr : zRel h) (hL : L ≤ 2560) (hp : p + 5 ≤ L) (hx : xs p &&& nI 31 = nI 7) : ∃ h2, zRel h2 ∧ zev xs L 161 18 [.float 0, .ref 0, .ref 104, .int (nI p)] [] h = zev xs L 161 18 [.float 0, .ref 0, .ref 104, .int (nI (p + 5))] [] h2 := by
  have ht7 := zRel_7 hr
  have h5 : ¬ L - 5 < p := by omega
  obtain ⟨x, h1, h2, e1, e2, ht8, hr2⟩ := d_dawn (xs := xs) (L := L) hr (z := xs (p + 1))
  refine ⟨h2, hr2, ?_⟩
  conv => lhs; rw [q161_18]
  simp (disch := first | omega | exact zsc (by omega) hL | exact ht7 | exact ht8) only [q161_19, q161_20, q161_21, q161_22, q161_23, q161_26, q161_27, q161_28, q161_29, q161_31, q161_32_7, q161_365, q161_366, q161_367, q161_368, q161_369, q161_370, q161_371, q161_374, q161_375, q161_376, q161_377, q161_378, q161_379, q161_380, q161_383, q161_386, q161_387, q161_927, q161_930, e1, e2, hx, h5, nI_add, zpos5, nI_clamp, zn_lt, ite_not, Option.bind_some, Option.bind_none, Option.toList_some, Option.toList_none, List.cons_append, List.nil_append, if_true, if_false, zif_t, zif_f, eq_self]
theorem w_8 (hr : zRel h) (hL : L ≤ 2560) (hp : p + 5 ≤ L) (hx : xs p &&& nI 31 = nI 8) : ∃ h2, zRel h2 ∧ zev xs L 161 18 [.float 0, .ref 0, .ref 104, .int (nI p)] [] h = zev xs L 161 18 [.float 0, .ref 0, .ref 104, .int (nI (p + 5))] [] h2 := by
  have ht7 := zRel_7 hr
  have h5 : ¬ L - 5 < p := by omega
  obtain ⟨x, h1, h2, e1, e2, ht8, hr2⟩ := d_change (xs := xs) (L := L) hr (i := xs (p + 1)) (j := xs (p + 2))
  refine ⟨h2, hr2, ?_⟩
  conv => lhs; rw [q161_18]
  simp (disch := first | omega | exact zsc (by omega) hL | exact ht7 | exact ht8) only [q161_19, q161_20, q161_21, q161_22, q161_23, q161_26, q161_27, q161_28, q161_29, q161_31, q161_32_8, q161_388, q161_389, q161_390, q161_391, q161_392, q161_393, q161_394, q161_395, q161_396, q161_397, q161_398, q161_399, q161_402, q161_403, q161_404, q161_405, q161_406, q161_407, q161_408, q161_409, q161_410, q161_411, q161_412, q161_413, q161_416, q161_419, q161_420, q161_927, q161_930, e1, e2, hx, h5, nI_add, zpos5, nI_clamp, zn_lt, ite_not, Option.bind_some, Option.bind_none, Option.toList_some, Option.toList_none, List.cons_append, List.nil_append, if_true, if_false, zif_t, zif_f, eq_self]
theorem w_9 (hr : zRel h) (hL : L ≤ 2560) (hp : p + 5 ≤ L) (hx : xs p &&& nI 31 = nI 9) : ∃ h2, zRel h2 ∧ zev xs L 161 18 [.float 0, .ref 0, .ref 104, .int (nI p)] [] h = zev xs L 161 18 [.float 0, .ref 0, .ref 104, .int (nI (p + 5))] [] h2 := by
  have ht7 := zRel_7 hr
  have h5 : ¬ L - 5 < p := by omega
  obtain ⟨x, h1, h2, e1, e2, ht8, hr2⟩ := d_deed (xs := xs) (L := L) hr (i := xs (p + 1)) (d := xs (p + 2))
  refine ⟨h2, hr2, ?_⟩
  conv => lhs; rw [q161_18]
  simp (disch := first | omega | exact zsc (by omega) hL | exact ht7 | exact ht8) only [q161_19, q161_20, q161_21, q161_22, q161_23, q161_26, q161_27, q161_28, q161_29, q161_31, q161_32_9, q161_421, q161_422, q161_423, q161_424, q161_425, q161_426, q161_427, q161_428, q161_429, q161_430, q161_431, q161_432, q161_435, q161_436, q161_437, q161_438, q161_439, q161_440, q161_441, q161_442, q161_443, q161_444, q161_445, q161_446, q161_449, q161_452, q161_453, q161_927, q161_930, e1, e2, hx, h5, nI_add, zpos5, nI_clamp, zn_lt, ite_not, Option.bind_some, Option.bind_none, Option.toList_some, Option.toList_none, List.cons_append, List.nil_append, if_true, if_false, zif_t, zif_f, eq_self]
theorem w_10 (hr : zRel h) (hL : L ≤ 2560) (hp : p + 5 ≤ L) (hx : xs p &&& nI 31 = nI 10) : ∃ h2, zRel h2 ∧ zev xs L 161 18 [.float 0, .ref 0, .ref 104, .int (nI p)] [] h = zev xs L 161 18 [.float 0, .ref 0, .ref 104, .int (nI (p + 5))] [] h2 := by
  have ht7 := zRel_7 hr
  have h5 : ¬ L - 5 < p := by omega
  obtain ⟨x, h1, h2, e1, e2, ht8, hr2⟩ := d_sentence (xs := xs) (L := L) hr (i := xs (p + 1)) (j := xs (p + 2))
  refine ⟨h2, hr2, ?_⟩
  conv => lhs; rw [q161_18]
  simp (disch := first | omega | exact zsc (by omega) hL | exact ht7 | exact ht8) only [q161_19, q161_20, q161_21, q161_22, q161_23, q161_26, q161_27, q161_28, q161_29, q161_31, q161_32_10, q161_454, q161_455, q161_456, q161_457, q161_458, q161_459, q161_460, q161_461, q161_462, q161_463, q161_464, q161_465, q161_468, q161_469, q161_470, q161_471, q161_472, q161_473, q161_474, q161_475, q161_476, q161_477, q161_478, q161_479, q161_482, q161_485, q161_486, q161_927, q161_930, e1, e2, hx, h5, nI_add, zpos5, nI_clamp, zn_lt, ite_not, Option.bind_some, Option.bind_none, Option.toList_some, Option.toList_none, List.cons_append, List.nil_append, if_true, if_false, zif_t, zif_f, eq_self]
theorem w_11 (hr : zRel h) (hL : L ≤ 2560) (hp : p + 5 ≤ L) (hx : xs p &&& nI 31 = nI 11) : ∃ h2, zRel h2 ∧ zev xs L 161 18 [.float 0, .ref 0, .ref 104, .int (nI p)] [] h = zev xs L 161 18 [.float 0, .ref 0, .ref 104, .int (nI (p + 5))] [] h2 := by
  have ht7 := zRel_7 hr
  have h5 : ¬ L - 5 < p := by omega
  obtain ⟨x, h1, h2, e1, e2, ht8, hr2⟩ := d_pardon (xs := xs) (L := L) hr (i := xs (p + 1)) (j := xs (p + 2))
  refine ⟨h2, hr2, ?_⟩
  conv => lhs; rw [q161_18]
  simp (disch := first | omega | exact zsc (by omega) hL | exact ht7 | exact ht8) only [q161_19, q161_20, q161_21, q161_22, q161_23, q161_26, q161_27, q161_28, q161_29, q161_31, q161_32_11, q161_487, q161_488, q161_489, q161_490, q161_491, q161_492, q161_493, q161_494, q161_495, q161_496, q161_497, q161_498, q161_501, q161_502, q161_503, q161_504, q161_505, q161_506, q161_507, q161_508, q161_509, q161_510, q161_511, q161_512, q161_515, q161_518, q161_519, q161_927, q161_930, e1, e2, hx, h5, nI_add, zpos5, nI_clamp, zn_lt, ite_not, Option.bind_some, Option.bind_none, Option.toList_some, Option.toList_none, List.cons_append, List.nil_append, if_true, if_false, zif_t, zif_f, eq_self]
theorem w_12 (hr : zRel h) (hL : L ≤ 2560) (hp : p + 5 ≤ L) (hx : xs p &&& nI 31 = nI 12) : ∃ h2, zRel h2 ∧ zev xs L 161 18 [.float 0, .ref 0, .ref 104, .int (nI p)] [] h = zev xs L 161 18 [.float 0, .ref 0, .ref 104, .int (nI (p + 5))] [] h2 := by
  have ht7 := zRel_7 hr
  have h5 : ¬ L - 5 < p := by omega
  obtain ⟨x, h1, h2, e1, e2, ht8, hr2⟩ := d_undo (xs := xs) (L := L) hr 
  refine ⟨h2, hr2, ?_⟩
  conv => lhs; rw [q161_18]
  simp (disch := first | omega | exact zsc (by omega) hL | exact ht7 | exact ht8) only [q161_19, q161_20, q161_21, q161_22, q161_23, q161_26, q161_27, q161_28, q161_29, q161_31, q161_32_12, q161_520, q161_521, q161_524, q161_525, q161_528, q161_531, q161_532, q161_927, q161_930, e1, e2, hx, h5, nI_add, zpos5, nI_clamp, zn_lt, ite_not, Option.bind_some, Option.bind_none, Option.toList_some, Option.toList_none, List.cons_append, List.nil_append, if_true, if_false, zif_t, zif_f, eq_self]
theorem w_13 (hr : zRel h) (hL : L ≤ 2560) (hp : p + 5 ≤ L) (hx : xs p &&& nI 31 = nI 13) : ∃ h2, zRel h2 ∧ zev xs L 161 18 [.float 0, .ref 0, .ref 104, .int (nI p)] [] h = zev xs L 161 18 [.float 0, .ref 0, .ref 104, .int (nI (p + 5))] [] h2 := by
  have ht7 := zRel_7 hr
  have h5 : ¬ L - 5 < p := by omega
  obtain ⟨x, h1, h2, e1, e2, ht8, hr2⟩ := d_chance (xs := xs) (L := L) hr (i := xs (p + 1))
  refine ⟨h2, hr2, ?_⟩
  conv => lhs; rw [q161_18]
  simp (disch := first | omega | exact zsc (by omega) hL | exact ht7 | exact ht8) only [q161_19, q161_20, q161_21, q161_22, q161_23, q161_26, q161_27, q161_28, q161_29, q161_31, q161_32_13, q161_533, q161_534, q161_535, q161_536, q161_537, q161_538, q161_539, q161_542, q161_543, q161_544, q161_545, q161_546, q161_547, q161_548, q161_551, q161_554, q161_555, q161_927, q161_930, e1, e2, hx, h5, nI_add, zpos5, nI_clamp, zn_lt, ite_not, Option.bind_some, Option.bind_none, Option.toList_some, Option.toList_none, List.cons_append, List.nil_append, if_true, if_false, zif_t, zif_f, eq_self]
theorem w_14 (hr : zRel h) (hL : L ≤ 2560) (hp : p + 5 ≤ L) (hx : xs p &&& nI 31 = nI 14) : ∃ h2, zRel h2 ∧ zev xs L 161 18 [.float 0, .ref 0, .ref 104, .int (nI p)] [] h = zev xs L 161 18 [.float 0, .ref 0, .ref 104, .int (nI (p + 5))] [] h2 := by
  have ht7 := zRel_7 hr
  have h5 : ¬ L - 5 < p := by omega
  obtain ⟨x, h1, h2, e1, e2, ht8, hr2⟩ := d_anew (xs := xs) (L := L) hr (i := xs (p + 1))
  refine ⟨h2, hr2, ?_⟩
  conv => lhs; rw [q161_18]
  simp (disch := first | omega | exact zsc (by omega) hL | exact ht7 | exact ht8) only [q161_19, q161_20, q161_21, q161_22, q161_23, q161_26, q161_27, q161_28, q161_29, q161_31, q161_32_14, q161_556, q161_557, q161_558, q161_559, q161_560, q161_561, q161_562, q161_565, q161_566, q161_567, q161_568, q161_569, q161_570, q161_571, q161_574, q161_577, q161_578, q161_927, q161_930, e1, e2, hx, h5, nI_add, zpos5, nI_clamp, zn_lt, ite_not, Option.bind_some, Option.bind_none, Option.toList_some, Option.toList_none, List.cons_append, List.nil_append, if_true, if_false, zif_t, zif_f, eq_self]
theorem w_15 (hr : zRel h) (hL : L ≤ 2560) (hp : p + 5 ≤ L) (hx : xs p &&& nI 31 = nI 15) : ∃ h2, zRel h2 ∧ zev xs L 161 18 [.float 0, .ref 0, .ref 104, .int (nI p)] [] h = zev xs L 161 18 [.float 0, .ref 0, .ref 104, .int (nI (p + 5))] [] h2 := by
  have ht7 := zRel_7 hr
  have h5 : ¬ L - 5 < p := by omega
  obtain ⟨x, h1, h2, e1, e2, ht8, hr2⟩ := d_liked (xs := xs) (L := L) hr (i := xs (p + 1))
  refine ⟨h2, hr2, ?_⟩
  conv => lhs; rw [q161_18]
  simp (disch := first | omega | exact zsc (by omega) hL | exact ht7 | exact ht8) only [q161_19, q161_20, q161_21, q161_22, q161_23, q161_26, q161_27, q161_28, q161_29, q161_31, q161_32_15, q161_579, q161_580, q161_581, q161_582, q161_583, q161_584, q161_585, q161_588, q161_589, q161_590, q161_591, q161_592, q161_593, q161_594, q161_597, q161_600, q161_601, q161_927, q161_930, e1, e2, hx, h5, nI_add, zpos5, nI_clamp, zn_lt, ite_not, Option.bind_some, Option.bind_none, Option.toList_some, Option.toList_none, List.cons_append, List.nil_append, if_true, if_false, zif_t, zif_f, eq_self]
theorem w_16 (hr : zRel h) (hL : L ≤ 2560) (hp : p + 5 ≤ L) (hx : xs p &&& nI 31 = nI 16) : ∃ h2, zRel h2 ∧ zev xs L 161 18 [.float 0, .ref 0, .ref 104, .int (nI p)] [] h = zev xs L 161 18 [.float 0, .ref 0, .ref 104, .int (nI (p + 5))] [] h2 := by
  have ht7 := zRel_7 hr
  have h5 : ¬ L - 5 < p := by omega
  obtain ⟨x, h1, h2, e1, e2, ht8, hr2⟩ := d_allChange (xs := xs) (L := L) hr (i := xs (p + 1))
  refine ⟨h2, hr2, ?_⟩
  conv => lhs; rw [q161_18]
  simp (disch := first | omega | exact zsc (by omega) hL | exact ht7 | exact ht8) only [q161_19, q161_20, q161_21, q161_22, q161_23, q161_26, q161_27, q161_28, q161_29, q161_31, q161_32_16, q161_602, q161_603, q161_604, q161_605, q161_606, q161_607, q161_608, q161_611, q161_612, q161_613, q161_614, q161_615, q161_616, q161_617, q161_620, q161_623, q161_624, q161_927, q161_930, e1, e2, hx, h5, nI_add, zpos5, nI_clamp, zn_lt, ite_not, Option.bind_some, Option.bind_none, Option.toList_some, Option.toList_none, List.cons_append, List.nil_append, if_true, if_false, zif_t, zif_f, eq_self]
theorem w_17 (hr : zRel h) (hL : L ≤ 2560) (hp : p + 5 ≤ L) (hx : xs p &&& nI 31 = nI 17) : ∃ h2, zRel h2 ∧ zev xs L 161 18 [.float 0, .ref 0, .ref 104, .int (nI p)] [] h = zev xs L 161 18 [.float 0, .ref 0, .ref 104, .int (nI (p + 5))] [] h2 := by
  have ht7 := zRel_7 hr
  have h5 : ¬ L - 5 < p := by omega
  obtain ⟨x, h1, h2, e1, e2, ht8, hr2⟩ := d_rounds (xs := xs) (L := L) hr (i := xs (p + 1))
  refine ⟨h2, hr2, ?_⟩
  conv => lhs; rw [q161_18]
  simp (disch := first | omega | exact zsc (by omega) hL | exact ht7 | exact ht8) only [q161_19, q161_20, q161_21, q161_22, q161_23, q161_26, q161_27, q161_28, q161_29, q161_31, q161_32_17, q161_625, q161_626, q161_627, q161_628, q161_629, q161_630, q161_631, q161_634, q161_635, q161_636, q161_637, q161_638, q161_639, q161_640, q161_643, q161_646, q161_647, q161_927, q161_930, e1, e2, hx, h5, nI_add, zpos5, nI_clamp, zn_lt, ite_not, Option.bind_some, Option.bind_none, Option.toList_some, Option.toList_none, List.cons_append, List.nil_append, if_true, if_false, zif_t, zif_f, eq_self]
theorem w_18 (hr : zRel h) (hL : L ≤ 2560) (hp : p + 5 ≤ L) (hx : xs p &&& nI 31 = nI 18) : ∃ h2, zRel h2 ∧ zev xs L 161 18 [.float 0, .ref 0, .ref 104, .int (nI p)] [] h = zev xs L 161 18 [.float 0, .ref 0, .ref 104, .int (nI (p + 5))] [] h2 := by
  have ht7 := zRel_7 hr
  have h5 : ¬ L - 5 < p := by omega
  by_cases hy : xs (p + 3) = 0
  · obtain ⟨x, h1, h2, e1, e2, ht8, hr2⟩ := d_seen (xs := xs) (L := L) hr (i := xs (p + 1)) (d := xs (p + 2)) (y := nI 0)
    refine ⟨h2, hr2, ?_⟩
    conv => lhs; rw [q161_18]
    simp (disch := first | omega | exact zsc (by omega) hL | exact ht7 | exact ht8) only [q161_19, q161_20, q161_21, q161_22, q161_23, q161_26, q161_27, q161_28, q161_29, q161_31, q161_32_18, q161_648, q161_649, q161_650, q161_651, q161_652, q161_653, q161_654, q161_655, q161_656, q161_657, q161_658, q161_659, q161_660, q161_661, q161_662, q161_663, q161_664, q161_667, q161_668, q161_671, q161_672, q161_675, q161_676, q161_677, q161_678, q161_679, q161_680, q161_681, q161_682, q161_683, q161_684, q161_685, q161_686, q161_687, q161_688, q161_689, q161_690, q161_691, q161_694, q161_695, q161_698, q161_699, q161_702, q161_705, q161_706, q161_927, q161_930, e1, e2, hx, hy, h5, nI_add, zpos5, nI_clamp, zn_lt, ite_not, Option.bind_some, Option.bind_none, Option.toList_some, Option.toList_none, List.cons_append, List.nil_append, if_true, if_false, zif_t, zif_f, eq_self]
  · obtain ⟨x, h1, h2, e1, e2, ht8, hr2⟩ := d_seen (xs := xs) (L := L) hr (i := xs (p + 1)) (d := xs (p + 2)) (y := nI 1)
    refine ⟨h2, hr2, ?_⟩
    conv => lhs; rw [q161_18]
    simp (disch := first | omega | exact zsc (by omega) hL | exact ht7 | exact ht8) only [q161_19, q161_20, q161_21, q161_22, q161_23, q161_26, q161_27, q161_28, q161_29, q161_31, q161_32_18, q161_648, q161_649, q161_650, q161_651, q161_652, q161_653, q161_654, q161_655, q161_656, q161_657, q161_658, q161_659, q161_660, q161_661, q161_662, q161_663, q161_664, q161_667, q161_668, q161_671, q161_672, q161_675, q161_676, q161_677, q161_678, q161_679, q161_680, q161_681, q161_682, q161_683, q161_684, q161_685, q161_686, q161_687, q161_688, q161_689, q161_690, q161_691, q161_694, q161_695, q161_698, q161_699, q161_702, q161_705, q161_706, q161_927, q161_930, e1, e2, hx, hy, h5, nI_add, zpos5, nI_clamp, zn_lt, ite_not, Option.bind_some, Option.bind_none, Option.toList_some, Option.toList_none, List.cons_append, List.nil_append, if_true, if_false, zif_t, zif_f, eq_self]
theorem w_19 (hr : zRel h) (hL : L ≤ 2560) (hp : p + 5 ≤ L) (hx : xs p &&& nI 31 = nI 19) : ∃ h2, zRel h2 ∧ zev xs L 161 18 [.float 0, .ref 0, .ref 104, .int (nI p)] [] h = zev xs L 161 18 [.float 0, .ref 0, .ref 104, .int (nI (p + 5))] [] h2 := by
  have ht7 := zRel_7 hr
  have h5 : ¬ L - 5 < p := by omega
  obtain ⟨x, h1, h2, e1, e2, ht8, hr2⟩ := d_forget (xs := xs) (L := L) hr 
  refine ⟨h2, hr2, ?_⟩
  conv => lhs; rw [q161_18]
  simp (disch := first | omega | exact zsc (by omega) hL | exact ht7 | exact ht8) only [q161_19, q161_20, q161_21, q161_22, q161_23, q161_26, q161_27, q161_28, q161_29, q161_31, q161_32_19, q161_707, q161_708, q161_711, q161_712, q161_715, q161_718, q161_719, q161_927, q161_930, e1, e2, hx, h5, nI_add, zpos5, nI_clamp, zn_lt, ite_not, Option.bind_some, Option.bind_none, Option.toList_some, Option.toList_none, List.cons_append, List.nil_append, if_true, if_false, zif_t, zif_f, eq_self]
theorem w_20 (hr : zRel h) (hL : L ≤ 2560) (hp : p + 5 ≤ L) (hx : xs p &&& nI 31 = nI 20) : ∃ h2, zRel h2 ∧ zev xs L 161 18 [.float 0, .ref 0, .ref 104, .int (nI p)] [] h = zev xs L 161 18 [.float 0, .ref 0, .ref 104, .int (nI (p + 5))] [] h2 := by
  have ht7 := zRel_7 hr
  have h5 : ¬ L - 5 < p := by omega
  obtain ⟨x, h1, h2, e1, e2, ht8, hr2⟩ := d_fits (xs := xs) (L := L) hr 
  refine ⟨h2, hr2, ?_⟩
  conv => lhs; rw [q161_18]
  simp (disch := first | omega | exact zsc (by omega) hL | exact ht7 | exact ht8) only [q161_19, q161_20, q161_21, q161_22, q161_23, q161_26, q161_27, q161_28, q161_29, q161_31, q161_32_20, q161_720, q161_721, q161_724, q161_725, q161_728, q161_731, q161_732, q161_927, q161_930, e1, e2, hx, h5, nI_add, zpos5, nI_clamp, zn_lt, ite_not, Option.bind_some, Option.bind_none, Option.toList_some, Option.toList_none, List.cons_append, List.nil_append, if_true, if_false, zif_t, zif_f, eq_self]
theorem w_21 (hr : zRel h) (hL : L ≤ 2560) (hp : p + 5 ≤ L) (hx : xs p &&& nI 31 = nI 21) : ∃ h2, zRel h2 ∧ zev xs L 161 18 [.float 0, .ref 0, .ref 104, .int (nI p)] [] h = zev xs L 161 18 [.float 0, .ref 0, .ref 104, .int (nI (p + 5))] [] h2 := by
  have ht7 := zRel_7 hr
  have h5 : ¬ L - 5 < p := by omega
  obtain ⟨x, h1, h2, e1, e2, ht8, hr2⟩ := d_sure (xs := xs) (L := L) hr (i := xs (p + 1))
  refine ⟨h2, hr2, ?_⟩
  conv => lhs; rw [q161_18]
  simp (disch := first | omega | exact zsc (by omega) hL | exact ht7 | exact ht8) only [q161_19, q161_20, q161_21, q161_22, q161_23, q161_26, q161_27, q161_28, q161_29, q161_31, q161_32_21, q161_733, q161_734, q161_735, q161_736, q161_737, q161_738, q161_739, q161_742, q161_743, q161_744, q161_745, q161_746, q161_747, q161_748, q161_751, q161_754, q161_755, q161_927, q161_930, e1, e2, hx, h5, nI_add, zpos5, nI_clamp, zn_lt, ite_not, Option.bind_some, Option.bind_none, Option.toList_some, Option.toList_none, List.cons_append, List.nil_append, if_true, if_false, zif_t, zif_f, eq_self]
theorem w_22 (hr : zRel h) (hL : L ≤ 2560) (hp : p + 5 ≤ L) (hx : xs p &&& nI 31 = nI 22) : ∃ h2, zRel h2 ∧ zev xs L 161 18 [.float 0, .ref 0, .ref 104, .int (nI p)] [] h = zev xs L 161 18 [.float 0, .ref 0, .ref 104, .int (nI (p + 5))] [] h2 := by
  have ht7 := zRel_7 hr
  have h5 : ¬ L - 5 < p := by omega
  obtain ⟨x, h1, h2, e1, e2, ht8, hr2⟩ := d_fairest (xs := xs) (L := L) hr (i := xs (p + 1))
  refine ⟨h2, hr2, ?_⟩
  conv => lhs; rw [q161_18]
  simp (disch := first | omega | exact zsc (by omega) hL | exact ht7 | exact ht8) only [q161_19, q161_20, q161_21, q161_22, q161_23, q161_26, q161_27, q161_28, q161_29, q161_31, q161_32_22, q161_756, q161_757, q161_758, q161_759, q161_760, q161_761, q161_762, q161_765, q161_766, q161_767, q161_768, q161_769, q161_770, q161_771, q161_774, q161_777, q161_778, q161_927, q161_930, e1, e2, hx, h5, nI_add, zpos5, nI_clamp, zn_lt, ite_not, Option.bind_some, Option.bind_none, Option.toList_some, Option.toList_none, List.cons_append, List.nil_append, if_true, if_false, zif_t, zif_f, eq_self]
theorem w_23 (hr : zRel h) (hL : L ≤ 2560) (hp : p + 5 ≤ L) (hx : xs p &&& nI 31 = nI 23) : ∃ h2, zRel h2 ∧ zev xs L 161 18 [.float 0, .ref 0, .ref 104, .int (nI p)] [] h = zev xs L 161 18 [.float 0, .ref 0, .ref 104, .int (nI (p + 5))] [] h2 := by
  have ht7 := zRel_7 hr
  have h5 : ¬ L - 5 < p := by omega
  obtain ⟨x, h1, h2, e1, e2, ht8, hr2⟩ := d_make (xs := xs) (L := L) hr (i := xs (p + 1)) (k := xs (p + 2))
  refine ⟨h2, hr2, ?_⟩
  conv => lhs; rw [q161_18]
  simp (disch := first | omega | exact zsc (by omega) hL | exact ht7 | exact ht8) only [q161_19, q161_20, q161_21, q161_22, q161_23, q161_26, q161_27, q161_28, q161_29, q161_31, q161_32_23, q161_779, q161_780, q161_781, q161_782, q161_783, q161_784, q161_785, q161_786, q161_787, q161_788, q161_789, q161_790, q161_793, q161_794, q161_795, q161_796, q161_797, q161_798, q161_799, q161_800, q161_801, q161_802, q161_803, q161_804, q161_807, q161_810, q161_811, q161_927, q161_930, e1, e2, hx, h5, nI_add, zpos5, nI_clamp, zn_lt, ite_not, Option.bind_some, Option.bind_none, Option.toList_some, Option.toList_none, List.cons_append, List.nil_append, if_true, if_false, zif_t, zif_f, eq_self]
theorem w_24 (hr : zRel h) (hL : L ≤ 2560) (hp : p + 5 ≤ L) (hx : xs p &&& nI 31 = nI 24) : ∃ h2, zRel h2 ∧ zev xs L 161 18 [.float 0, .ref 0, .ref 104, .int (nI p)] [] h = zev xs L 161 18 [.float 0, .ref 0, .ref 104, .int (nI (p + 5))] [] h2 := by
  have ht7 := zRel_7 hr
  have h5 : ¬ L - 5 < p := by omega
  obtain ⟨x, h1, h2, e1, e2, ht8, hr2⟩ := d_falseOne (xs := xs) (L := L) hr 
  refine ⟨h2, hr2, ?_⟩
  conv => lhs; rw [q161_18]
  simp (disch := first | omega | exact zsc (by omega) hL | exact ht7 | exact ht8) only [q161_19, q161_20, q161_21, q161_22, q161_23, q161_26, q161_27, q161_28, q161_29, q161_31, q161_32_24, q161_812, q161_813, q161_816, q161_817, q161_820, q161_823, q161_824, q161_927, q161_930, e1, e2, hx, h5, nI_add, zpos5, nI_clamp, zn_lt, ite_not, Option.bind_some, Option.bind_none, Option.toList_some, Option.toList_none, List.cons_append, List.nil_append, if_true, if_false, zif_t, zif_f, eq_self]
theorem w_25 (hr : zRel h) (hL : L ≤ 2560) (hp : p + 5 ≤ L) (hx : xs p &&& nI 31 = nI 25) : ∃ h2, zRel h2 ∧ zev xs L 161 18 [.float 0, .ref 0, .ref 104, .int (nI p)] [] h = zev xs L 161 18 [.float 0, .ref 0, .ref 104, .int (nI (p + 5))] [] h2 := by
  have ht7 := zRel_7 hr
  have h5 : ¬ L - 5 < p := by omega
  obtain ⟨x, h1, h2, e1, e2, ht8, hr2⟩ := d_year (xs := xs) (L := L) hr (z := xs (p + 1)) (n := xs (p + 2)) (i := xs (p + 3)) (y := xs (p + 4))
  refine ⟨h2, hr2, ?_⟩
  conv => lhs; rw [q161_18]
  simp (disch := first | omega | exact zsc (by omega) hL | exact ht7 | exact ht8) only [q161_19, q161_20, q161_21, q161_22, q161_23, q161_26, q161_27, q161_28, q161_29, q161_31, q161_32_25, q161_825, q161_826, q161_827, q161_828, q161_829, q161_830, q161_831, q161_832, q161_833, q161_834, q161_835, q161_836, q161_837, q161_838, q161_839, q161_840, q161_841, q161_842, q161_843, q161_844, q161_845, q161_846, q161_849, q161_850, q161_851, q161_852, q161_853, q161_854, q161_855, q161_856, q161_857, q161_858, q161_859, q161_860, q161_861, q161_862, q161_863, q161_864, q161_865, q161_866, q161_867, q161_868, q161_869, q161_870, q161_873, q161_876, q161_877, q161_927, q161_930, e1, e2, hx, h5, nI_add, zpos5, nI_clamp, zn_lt, ite_not, Option.bind_some, Option.bind_none, Option.toList_some, Option.toList_none, List.cons_append, List.nil_append, if_true, if_false, zif_t, zif_f, eq_self]
theorem w_26 (hr : zRel h) (hL : L ≤ 2560) (hp : p + 5 ≤ L) (hx : xs p &&& nI 31 = nI 26) : ∃ h2, zRel h2 ∧ zev xs L 161 18 [.float 0, .ref 0, .ref 104, .int (nI p)] [] h = zev xs L 161 18 [.float 0, .ref 0, .ref 104, .int (nI (p + 5))] [] h2 := by
  have ht7 := zRel_7 hr
  have h5 : ¬ L - 5 < p := by omega
  obtain ⟨x, h1, h2, e1, e2, ht8, hr2⟩ := d_keep (xs := xs) (L := L) hr 
  refine ⟨h2, hr2, ?_⟩
  conv => lhs; rw [q161_18]
  simp (disch := first | omega | exact zsc (by omega) hL | exact ht7 | exact ht8) only [q161_19, q161_20, q161_21, q161_22, q161_23, q161_26, q161_27, q161_28, q161_29, q161_31, q161_32_26, q161_878, q161_879, q161_882, q161_883, q161_886, q161_889, q161_890, q161_927, q161_930, e1, e2, hx, h5, nI_add, zpos5, nI_clamp, zn_lt, ite_not, Option.bind_some, Option.bind_none, Option.toList_some, Option.toList_none, List.cons_append, List.nil_append, if_true, if_false, zif_t, zif_f, eq_self]
theorem w_27 (hr : zRel h) (hL : L ≤ 2560) (hp : p + 5 ≤ L) (hx : xs p &&& nI 31 = nI 27) : ∃ h2, zRel h2 ∧ zev xs L 161 18 [.float 0, .ref 0, .ref 104, .int (nI p)] [] h = zev xs L 161 18 [.float 0, .ref 0, .ref 104, .int (nI (p + 5))] [] h2 := by
  have ht7 := zRel_7 hr
  have h5 : ¬ L - 5 < p := by omega
  obtain ⟨x, h1, h2, e1, e2, ht8, hr2⟩ := d_back (xs := xs) (L := L) hr 
  refine ⟨h2, hr2, ?_⟩
  conv => lhs; rw [q161_18]
  simp (disch := first | omega | exact zsc (by omega) hL | exact ht7 | exact ht8) only [q161_19, q161_20, q161_21, q161_22, q161_23, q161_26, q161_27, q161_28, q161_29, q161_31, q161_32_27, q161_891, q161_892, q161_895, q161_896, q161_899, q161_902, q161_903, q161_927, q161_930, e1, e2, hx, h5, nI_add, zpos5, nI_clamp, zn_lt, ite_not, Option.bind_some, Option.bind_none, Option.toList_some, Option.toList_none, List.cons_append, List.nil_append, if_true, if_false, zif_t, zif_f, eq_self]
theorem w_28 (hr : zRel h) (hL : L ≤ 2560) (hp : p + 5 ≤ L) (hx : xs p &&& nI 31 = nI 28) : ∃ h2, zRel h2 ∧ zev xs L 161 18 [.float 0, .ref 0, .ref 104, .int (nI p)] [] h = zev xs L 161 18 [.float 0, .ref 0, .ref 104, .int (nI (p + 5))] [] h2 := by
  have ht7 := zRel_7 hr
  have h5 : ¬ L - 5 < p := by omega
  obtain ⟨x, h1, h2, e1, e2, ht8, hr2⟩ := d_count (xs := xs) (L := L) hr (w := xs (p + 1))
  refine ⟨h2, hr2, ?_⟩
  conv => lhs; rw [q161_18]
  simp (disch := first | omega | exact zsc (by omega) hL | exact ht7 | exact ht8) only [q161_19, q161_20, q161_21, q161_22, q161_23, q161_26, q161_27, q161_28, q161_29, q161_31, q161_32_28, q161_904, q161_905, q161_906, q161_907, q161_908, q161_909, q161_910, q161_913, q161_914, q161_915, q161_916, q161_917, q161_918, q161_919, q161_922, q161_925, q161_926, q161_927, q161_930, e1, e2, hx, h5, nI_add, zpos5, nI_clamp, zn_lt, ite_not, Option.bind_some, Option.bind_none, Option.toList_some, Option.toList_none, List.cons_append, List.nil_append, if_true, if_false, zif_t, zif_f, eq_self]
theorem w_29 (hr : zRel h) (hL : L ≤ 2560) (hp : p + 5 ≤ L) {c : Nat} (hc : 29 ≤ c ∧ c < 32) (hx : xs p &&& nI 31 = nI c) : ∃ h2, zRel h2 ∧ zev xs L 161 18 [.float 0, .ref 0, .ref 104, .int (nI p)] [] h = zev xs L 161 18 [.float 0, .ref 0, .ref 104, .int (nI (p + 5))] [] h2 := by
  have ht7 := zRel_7 hr
  have h5 : ¬ L - 5 < p := by omega
  have ed := fun ls st h => q161_32_d (xs := xs) (L := L) (ls := ls) (st := st) (h := h) (x := nI c) (by rw [nI_toInt (by omega)]; omega)
  refine ⟨h, hr, ?_⟩
  conv => lhs; rw [q161_18]
  simp (disch := first | omega | exact zsc (by omega) hL | exact ht7) only [q161_19, q161_20, q161_21, q161_22, q161_23, q161_26, q161_27, q161_28, q161_29, q161_31, q161_927, q161_930, ed, hx, h5, nI_add, zpos5, nI_clamp, zn_lt, ite_not, Option.bind_some, Option.bind_none, Option.toList_some, Option.toList_none, List.cons_append, List.nil_append, if_true, if_false, zif_t, zif_f, eq_self]
end
