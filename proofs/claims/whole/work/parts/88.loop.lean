/-! ===== the law: to its end ===== -/
theorem zand31 (x : Int32) : ∃ c, c < 32 ∧ x &&& nI 31 = nI c := by
  refine ⟨x.toBitVec.toNat % 32, Nat.mod_lt _ (by decide), ?_⟩
  apply Int32.toBitVec_inj.mp
  apply BitVec.eq_of_toNat_eq
  have h2 : (nI (x.toBitVec.toNat % 32)).toBitVec = BitVec.ofNat 32 (x.toBitVec.toNat % 32) := rfl
  have h3 : (nI 31).toBitVec = BitVec.ofNat 32 31 := rfl
  rw [Int32.toBitVec_and, h2, h3, BitVec.toNat_and, BitVec.toNat_ofNat, BitVec.toNat_ofNat, show 31 % 2 ^ 32 = 2 ^ 5 - 1 from rfl, Nat.and_two_pow_sub_one_eq_mod]
  omega
theorem zexit {L p : Nat} (hL : L ≤ 2560) (hp : p ≤ 2560) (h : L < p + 5) : nI L - nI 5 < nI p := by
  by_cases c : 5 ≤ L
  · rw [zpos5 c, zn_lt (by omega) (by omega)]; omega
  · have h0 : (nI L - nI 5).toInt = (L : Int) - 5 := by
      match L, (show L < 5 by omega) with
      | 0, _ | 1, _ | 2, _ | 3, _ | 4, _ => decide
      | k + 5, h => omega
    rw [Int32.lt_iff_toInt_lt, h0, nI_toInt (by omega)]; omega
theorem zrn_l {n : Nat} {f : Nat → Nat} : (zrn n f).2.length = n := by simp [zrn]
theorem zri_l {t n : Nat} {f : Nat → Int32} : (zri t n f).2.length = n := by simp [zri]
theorem zra_l {n : Nat} {f : Nat → Nat} : (zra n f).2.length = n := by simp [zra]
theorem zRel_sz {h : ZH} (hr : zRel h) : h.length ≤ 600000 ∧ zsz h ≤ 7302250 := by
  obtain ⟨tl, tp, tb, cu, tk, tq, tm, tw, tc, tr, tg, tt, ts, tv, dn, dh, dw, dk, de, dx, dt, ps, pd, ks, kq, ss, sc, sn, wm, wb, wr, wp, wt, aw, ak, av, ap, an, aq, al, len, at_, kep, don, see, fit, tx, td, ki, kd, pe, sk, wo, sl, sa, wy, be, po, mh, go, rfl, hR⟩ := hr
  refine ⟨?_, ?_⟩
  · rw [List.length_append, zK_len]
    show 104 + 15 ≤ 600000
    decide
  · unfold zK zM
    simp only [zsz, List.map_append, List.sum_append, List.map_cons, List.map_nil, List.sum_cons, List.sum_nil, zrn_l, zri_l, zra_l, List.length_cons, List.length_nil]
    decide
section
variable {xs : Nat → Int32} {L p : Nat} {h : ZH}
theorem w_all (hr : zRel h) (hL : L ≤ 2560) (hp : p + 5 ≤ L) : ∃ h2, zRel h2 ∧ zev xs L 161 18 [.float 0, .ref 0, .ref 104, .int (nI p)] [] h = zev xs L 161 18 [.float 0, .ref 0, .ref 104, .int (nI (p + 5))] [] h2 := by
  obtain ⟨c, hc, hx⟩ := zand31 (xs p)
  by_cases h29 : 29 ≤ c
  · exact w_29 hr hL hp ⟨h29, hc⟩ hx
  · match c, (show c < 29 by omega) with
    | 0, _ => exact w_0 hr hL hp hx
    | 1, _ => exact w_1 hr hL hp hx
    | 2, _ => exact w_2 hr hL hp hx
    | 3, _ => exact w_3 hr hL hp hx
    | 4, _ => exact w_4 hr hL hp hx
    | 5, _ => exact w_5 hr hL hp hx
    | 6, _ => exact w_6 hr hL hp hx
    | 7, _ => exact w_7 hr hL hp hx
    | 8, _ => exact w_8 hr hL hp hx
    | 9, _ => exact w_9 hr hL hp hx
    | 10, _ => exact w_10 hr hL hp hx
    | 11, _ => exact w_11 hr hL hp hx
    | 12, _ => exact w_12 hr hL hp hx
    | 13, _ => exact w_13 hr hL hp hx
    | 14, _ => exact w_14 hr hL hp hx
    | 15, _ => exact w_15 hr hL hp hx
    | 16, _ => exact w_16 hr hL hp hx
    | 17, _ => exact w_17 hr hL hp hx
    | 18, _ => exact w_18 hr hL hp hx
    | 19, _ => exact w_19 hr hL hp hx
    | 20, _ => exact w_20 hr hL hp hx
    | 21, _ => exact w_21 hr hL hp hx
    | 22, _ => exact w_22 hr hL hp hx
    | 23, _ => exact w_23 hr hL hp hx
    | 24, _ => exact w_24 hr hL hp hx
    | 25, _ => exact w_25 hr hL hp hx
    | 26, _ => exact w_26 hr hL hp hx
    | 27, _ => exact w_27 hr hL hp hx
    | 28, _ => exact w_28 hr hL hp hx
    | k + 29, h => omega
theorem w_loop (hL : L ≤ 2560) : ∀ (r p : Nat) (h : ZH), zRel h → p ≤ 2560 → L < p + 5 * (r + 1) → ∃ hE, zRel hE ∧ zev xs L 161 18 [.float 0, .ref 0, .ref 104, .int (nI p)] [] h = some (some (.int (nI 1)), hE) := by
  have fin : ∀ (p : Nat) (h : ZH), p ≤ 2560 → L < p + 5 → zev xs L 161 18 [.float 0, .ref 0, .ref 104, .int (nI p)] [] h = some (some (.int (nI 1)), h) := by
    intro p h hp hl
    have e := zexit hL hp hl
    simp (disch := omega) only [q161_18, q161_19, q161_20, q161_21, q161_22, q161_23, q161_933, q161_934, e, zn_k1, if_true]
  intro r
  induction r with
  | zero => intro p h hr hp hl; exact ⟨h, hr, fin p h hp (by omega)⟩
  | succ r ih =>
    intro p h hr hp hl
    by_cases c : L < p + 5
    · exact ⟨h, hr, fin p h hp c⟩
    · obtain ⟨h2, hr2, e⟩ := w_all (xs := xs) hr hL (show p + 5 ≤ L by omega)
      obtain ⟨hE, g1, g2⟩ := ih (p + 5) h2 hr2 (by omega) (by omega)
      exact ⟨hE, g1, e.trans g2⟩
end
