/-! ===== plain mathematics: alike where it counts ===== -/
theorem zfst_c {f g : Nat → Bool} : ∀ {r j : Nat}, (∀ q, j ≤ q → q < j + r → f q = g q) → zfst f r j = zfst g r j
  | 0, _, _ => rfl
  | r + 1, j, h => by unfold zfst; rw [h j (by omega) (by omega), zfst_c (fun q h1 h2 => h q (by omega) (by omega))]
theorem zcnt_c {f g : Nat → Bool} : ∀ {r j : Nat}, (∀ q, j ≤ q → q < j + r → f q = g q) → zcnt f r j = zcnt g r j
  | 0, _, _ => rfl
  | r + 1, j, h => by unfold zcnt; rw [h j (by omega) (by omega), zcnt_c (fun q h1 h2 => h q (by omega) (by omega))]
theorem zfsP_c {f g : Nat → Nat → Bool} {n : Nat} (h : ∀ i j, i < n → j < n → f i j = g i j) : ∀ {r i : Nat}, i + r ≤ n → zfsP f n r i = zfsP g n r i
  | 0, _, _ => rfl
  | r + 1, i, hi => by
    unfold zfsP
    rw [zfst_c (g := g i) (fun q h1 h2 => h i q (by omega) (by omega)), zfsP_c h (by omega)]
theorem zcnP_c {f g : Nat → Nat → Bool} {n : Nat} (h : ∀ i j, i < n → j < n → f i j = g i j) : ∀ {r i : Nat}, i + r ≤ n → zcnP f n r i = zcnP g n r i
  | 0, _, _ => rfl
  | r + 1, i, hi => by
    unfold zcnP
    rw [zcnt_c (g := g i) (fun q h1 h2 => h i q (by omega) (by omega)), zcnP_c h (by omega)]
theorem zlb_c {lc n : Nat} {wo wo' kk kk' : Nat → Nat} (hk : ∀ i, i < n → kk i = kk' i ∧ kk i < 5) (hw : ∀ q, q < 5 * n → wo q = wo' q) : ∀ i j, i < n → j < n → zlb lc wo kk i j = zlb lc wo' kk' i j := by
  intro i j hi hj
  obtain ⟨a1, a2⟩ := hk i hi
  obtain ⟨b1, b2⟩ := hk j hj
  unfold zlb zlk
  rw [← a1, ← b1, hw _ (by omega), hw _ (by omega), hw _ (by omega), hw _ (by omega)]
theorem zfW_c {lc n : Nat} {wo wo' kf kf' W W' : Nat → Nat} (hn : n ≤ 6) (hk : ∀ m, m < 6 → kf m = kf' m ∧ kf m < 5) (hw : ∀ q, q < 5 * n → wo q = wo' q) (hW : ∀ i, i < n → W i = W' i) (hb : ∀ i, i < 6 → W i < 6) : zfW lc wo kf n W = zfW lc wo' kf' n W' := by
  unfold zfW
  refine zfsP_c (zlb_c (fun i hi => ?_) hw) (by omega)
  have h1 := hk _ (hb i (by omega))
  exact ⟨by rw [← hW i hi]; exact h1.1, h1.2⟩
theorem zsw_c {n a b : Nat} {W W' : Nat → Nat} (h : ∀ i, i < n → W i = W' i) (ha : a < n) (hb : b < n) : ∀ i, i < n → zsw W a b i = zsw W' a b i := zsw_congr h ha hb
theorem zac_c {lc n : Nat} {wo wo' kf kf' : Nat → Nat} (hn : n ≤ 6) (hk : ∀ m, m < 6 → kf m = kf' m ∧ kf m < 5) (hw : ∀ q, q < 5 * n → wo q = wo' q) : ∀ {r : Nat} {W W' : Nat → Nat}, (∀ i, i < n → W i = W' i) → (∀ i, i < 6 → W i < 6) → zacN lc wo kf n r W = zacN lc wo' kf' n r W' ∧ ∀ i, i < n → zacW lc wo kf n r W i = zacW lc wo' kf' n r W' i
  | 0, W, W', h, _ => ⟨rfl, h⟩
  | r + 1, W, W', h, hb => by
    have e := zfW_c (lc := lc) hn hk hw h hb
    unfold zacN zacW
    rw [← e]
    cases hz : zfW lc wo kf n W with
    | none => exact ⟨rfl, h⟩
    | some q =>
      obtain ⟨h1, h2, _⟩ := zfW_lt hz hn
      obtain ⟨i1, i2⟩ := zac_c (lc := lc) hn hk hw (r := r) (zsw_c h h1 h2) (zsw_lt (a := q / 10) (b := q % 10) hb (by omega) (by omega))
      refine ⟨?_, i2⟩
      simp only [i1]
theorem zptN_c {c c' : Nat → Nat → Bool} {i n : Nat} (hi : i < n) (h : ∀ j f, j < n → f < n → c j f = c' j f) : ∀ {j : Nat}, j ≤ n → zptN c i j = zptN c' i j
  | 0, _ => rfl
  | j + 1, hj => by
    have e := zptN_c hi h (j := j) (by omega)
    have l := zptN_lt (c := c') hi (j := j) (by omega)
    unfold zptN
    rw [e, h j _ (by omega) l]
theorem zpt_c {lc n left : Nat} {wo wo' kk kk' : Nat → Nat} (hk : ∀ i, i < n → kk i = kk' i ∧ kk i < 5) (hw : ∀ q, q < 5 * n → wo q = wo' q) : ∀ i, i < n → zpt lc wo kk n left i = zpt lc wo' kk' n left i := by
  intro i hi
  unfold zpt
  rw [← (hk i hi).1, zptN_c hi (c' := zptc lc wo' kk' left i) (fun j f hj hf => ?_) (Nat.le_refl n)]
  obtain ⟨a1, a2⟩ := hk j hj
  obtain ⟨b1, b2⟩ := hk f hf
  unfold zptc
  rw [← a1, ← b1, hw _ (by omega), hw _ (by omega)]
theorem zhas_c {c c' : Nat → Bool} {v v' f f' : Nat → Nat} {b : Nat} (hf : ∀ i, i < b → f i = f' i) : ∀ {k : Nat}, (∀ j, j < k → c j = c' j) → (∀ j, j < k → v j = v' j) → ∀ i, i < b → zhas c v k f i = zhas c' v' k f' i
  | 0, _, _ => hf
  | k + 1, h, hv => by
    have e := zhas_c hf (k := k) (fun j hj => h j (by omega)) (fun j hj => hv j (by omega))
    intro i hi
    unfold zhas
    rw [h k (by omega), hv k (by omega)]
    split
    · unfold va_up; rw [e i hi]
    · exact e i hi
theorem zrdL_c {lc n left : Nat} {wo wo' kk kk' : Nat → Nat} (hk : ∀ i, i < n → kk i = kk' i ∧ kk i < 5) (hw : ∀ q, q < 5 * n → wo q = wo' q) : (∀ k, k < n → zrin (zpt lc wo kk n left) left k = zrin (zpt lc wo' kk' n left) left k) ∧ zrdL lc wo kk n left = zrdL lc wo' kk' n left := by
  have hp := zpt_c (lc := lc) (left := left) hk hw
  have hc : ∀ k, k < n → zrin (zpt lc wo kk n left) left k = zrin (zpt lc wo' kk' n left) left k := fun k hkn => zrin_congr hp (fun j hj => zpt_lt hj) hkn
  refine ⟨hc, ?_⟩
  unfold zrdL
  rw [zgb_congr hc]
theorem zrdH_c {lc n : Nat} {wo wo' kk kk' W W' : Nat → Nat} (hk : ∀ i, i < n → kk i = kk' i ∧ kk i < 5) (hw : ∀ q, q < 5 * n → wo q = wo' q) (hW : ∀ i, i < n → W i = W' i) : ∀ {r left : Nat} {f f' : Nat → Nat}, (∀ i, i < 6 → f i = f' i) → ∀ i, i < 6 → zrdH lc wo kk W n r left f i = zrdH lc wo' kk' W' n r left f' i
  | 0, _, _, _, h => h
  | r + 1, left, f, f', h => by
    obtain ⟨c1, c2⟩ := zrdL_c (lc := lc) (left := left) hk hw
    have hp := zpt_c (lc := lc) (left := left) hk hw
    unfold zrdH
    split
    · exact h
    · rw [← c2]
      exact zrdH_c hk hw hW (zhas_c h c1 (fun j hj => by show W _ = W' _; rw [← hp j hj]; exact hW _ (zpt_lt hj)))
/-! over the ways -/
theorem zcw_c {T T' : (Nat → Nat) → Nat} {n : Nat} (hn : 1 ≤ n ∧ n ≤ 6) (hT : ∀ w w', (∀ j, j < n → w j = w' j) → (∀ j, j < 6 → w j < 6) → T w = T' w') : ∀ {r : Nat} {w w' : Nat → Nat}, (∀ j, j < n → w j = w' j) → (∀ j, j < 6 → w j < 6) → zcw T n r w = zcw T' n r w'
  | 0, w, w', h, hb => hT w w' h hb
  | r + 1, w, w', h, hb => by unfold zcw; rw [hT w w' h hb, zcw_c hn hT (znx_congr hn.1 h).2 (znd_lt hn hb)]
theorem zcv_c {T T' : (Nat → Nat) → Nat} {n : Nat} {v : Nat → Nat} (hn : 1 ≤ n ∧ n ≤ 6) (hv : ∀ j, j < 6 → v j < 6) (hT : ∀ w w', (∀ j, j < n → w j = w' j) → (∀ j, j < 6 → w j < 6) → T w = T' w') : zcv T n (zfac n) (zupto (fun j => j) n v) = zcw T' n (zfac n - 1) (fun j => j) := by
  have h1 := zfac_pos n
  rw [show zfac n = (zfac n - 1) + 1 by omega, zcv_w, Nat.add_sub_cancel]
  exact zcw_c hn hT (fun j hj => zupto_lt hj) (zupto_all (fun j hj => by omega) hv)
theorem zfs_c {F F' : (Nat → Nat) → Bool} {O O' : (Nat → Nat) → Nat} {n : Nat} (hn : 1 ≤ n ∧ n ≤ 6) (hT : ∀ w w', (∀ j, j < n → w j = w' j) → (∀ j, j < 6 → w j < 6) → F w = F' w' ∧ O w = O' w') : ∀ {r : Nat} {w w' : Nat → Nat} {st : Nat}, (∀ j, j < n → w j = w' j) → (∀ j, j < 6 → w j < 6) → zfs F O n r w st = zfs F' O' n r w' st
  | 0, w, w', st, h, hb => by unfold zfs; rw [(hT w w' h hb).1, (hT w w' h hb).2]
  | r + 1, w, w', st, h, hb => by unfold zfs; rw [(hT w w' h hb).1, (hT w w' h hb).2, zfs_c hn hT (znx_congr hn.1 h).2 (znd_lt hn hb)]
theorem zft_c {F F' : (Nat → Nat) → Bool} {O O' : (Nat → Nat) → Nat} {n st : Nat} {v : Nat → Nat} (hn : 1 ≤ n ∧ n ≤ 6) (hv : ∀ j, j < 6 → v j < 6) (hT : ∀ w w', (∀ j, j < n → w j = w' j) → (∀ j, j < 6 → w j < 6) → F w = F' w' ∧ O w = O' w') : zft F O n (zfac n) (zupto (fun j => j) n v) st = zfs F' O' n (zfac n - 1) (fun j => j) st := by
  have h1 := zfac_pos n
  rw [show zfac n = (zfac n - 1) + 1 by omega, zft_s, Nat.add_sub_cancel]
  exact zfs_c hn hT (fun j hj => zupto_lt hj) (zupto_all (fun j hj => by omega) hv)
theorem zfs_0 {F : (Nat → Nat) → Bool} {O : (Nat → Nat) → Nat} {n : Nat} : ∀ {r : Nat} {w : Nat → Nat} {st : Nat}, zcw (fun w => zb1 (F w)) n r w = 0 → zfs F O n r w st = st
  | 0, w, st, h => by
    have h1 : zb1 (F w) = 0 := h
    have h2 : F w = false := by
      unfold zb1 at h1
      cases hF : F w with
      | false => rfl
      | true => rw [hF] at h1; simp at h1
    unfold zfs; rw [h2]; rfl
  | r + 1, w, st, h => by
    have h0 : zb1 (F w) + zcw (fun w => zb1 (F w)) n r (znd n w) = 0 := h
    have h1 : zb1 (F w) = 0 := by omega
    have h2 : F w = false := by
      unfold zb1 at h1
      cases hF : F w with
      | false => rfl
      | true => rw [hF] at h1; simp at h1
    unfold zfs; rw [h2]
    show zfs F O n r (znd n w) st = st
    exact zfs_0 (by omega)
theorem zfaL_c {T T' : (Nat → Nat) → Nat} {n : Nat} (hn : 1 ≤ n ∧ n ≤ 6) (hT : ∀ w w', (∀ j, j < n → w j = w' j) → (∀ j, j < 6 → w j < 6) → T w = T' w') : ∀ {r : Nat} {w w' : Nat → Nat} {l : Nat}, (∀ j, j < n → w j = w' j) → (∀ j, j < 6 → w j < 6) → zgL T n (r + 1) w l = zfaL T' n r w' l
  | 0, w, w', l, h, hb => by unfold zgL zgL zfaL; rw [hT w w' h hb]
  | r + 1, w, w', l, h, hb => by rw [zgL, zfaL, hT w w' h hb, zfaL_c hn hT (znx_congr hn.1 h).2 (znd_lt hn hb)]
theorem zfaL_1 {T : (Nat → Nat) → Nat} {n : Nat} : ∀ {r : Nat} {w : Nat → Nat} {l : Nat}, 1 ≤ zfaL T n r w l
  | 0, w, l => by unfold zfaL; split <;> omega
  | r + 1, w, l => by unfold zfaL; exact zfaL_1
theorem zfaB_c {T T' : (Nat → Nat) → Nat} {n : Nat} (hn : 1 ≤ n ∧ n ≤ 6) (hT : ∀ w w', (∀ j, j < n → w j = w' j) → (∀ j, j < 6 → w j < 6) → T w = T' w') : ∀ {r : Nat} {w w' : Nat → Nat} {l : Nat} {b b' : Nat → Nat}, (∀ j, j < n → w j = w' j) → (∀ j, j < 6 → w j < 6) → (l ≠ 0 → ∀ i, i < n → b i = b' i) → ∀ i, i < n → zgB T n (r + 1) w l b i = zfaB T' n r w' l b' i
  | 0, w, w', l, b, b', h, hb, hbb => by
    intro i hi
    unfold zgB zgB zfaB
    rw [← hT w w' h hb]
    by_cases c : l = 0 ∨ T w + 1 < l
    · rw [if_pos c, if_pos c, zupto_lt hi]; exact h i hi
    · rw [if_neg c, if_neg c]; exact hbb (by omega) i hi
  | r + 1, w, w', l, b, b', h, hb, hbb => by
    intro i hi
    rw [zgB, zfaB, ← hT w w' h hb]
    refine zfaB_c hn hT (znx_congr hn.1 h).2 (znd_lt hn hb) (fun _ q hq => ?_) i hi
    by_cases c : l = 0 ∨ T w + 1 < l
    · rw [if_pos c, if_pos c, zupto_lt hq]; exact h q hq
    · rw [if_neg c, if_neg c]; exact hbb (by omega) q hq
theorem zall_iff {f : Nat → Bool} : ∀ {n : Nat}, zall f n = true ↔ ∀ i, i < n → f i = true
  | 0 => ⟨fun _ i hi => by omega, fun _ => rfl⟩
  | n + 1 => by
    unfold zall
    rw [Bool.and_eq_true, zall_iff]
    constructor
    · intro ⟨h1, h2⟩ i hi
      by_cases e : i = n
      · subst e; exact h2
      · exact h1 i (by omega)
    · intro h; exact ⟨fun i hi => h i (by omega), h n (by omega)⟩
theorem zhad_c {hd hd' kf kf' : Nat → Nat} {n : Nat} (hn : n ≤ 6) (hk : ∀ m, m < 6 → kf m = kf' m ∧ kf m < 5) (hh : ∀ q, q < 30 → hd q = hd' q) {w w' : Nat → Nat} (h : ∀ j, j < n → w j = w' j) (hb : ∀ j, j < 6 → w j < 6) : zhad hd kf n w = zhad hd' kf' n w' := by
  unfold zhad
  refine zsum_congr (fun i hi => ?_)
  obtain ⟨a1, a2⟩ := hk _ (hb i (by omega))
  show hd (5 * i + kf (w i)) = hd' (5 * i + kf' (w' i))
  rw [hh _ (by omega), ← h i hi, a1]
/-! bits -/
theorem zbit_and {x d : Nat} : (x &&& 2 ^ d = 0) ↔ ¬ x / 2 ^ d % 2 = 1 := by
  have t : x / 2 ^ d % 2 = 1 ↔ x.testBit d = true := by rw [Nat.testBit_eq_decide_div_mod_eq, decide_eq_true_eq]
  rw [t]
  constructor
  · intro h q
    have : (x &&& 2 ^ d).testBit d = true := by rw [Nat.testBit_and, q, Nat.testBit_two_pow_self]; rfl
    rw [h, Nat.zero_testBit] at this; cases this
  · intro h
    apply Nat.eq_of_testBit_eq
    intro i
    rw [Nat.testBit_and, Nat.zero_testBit]
    by_cases e : d = i
    · subst e
      cases hx : x.testBit d with
      | false => rfl
      | true => exact absurd hx h
    · rw [Nat.testBit_two_pow_of_ne e, Bool.and_false]
set_option maxRecDepth 100000 in
theorem zhb_0 : (List.range 64).all (fun H => (List.range 6).all (fun j => (List.range 6).all (fun i => decide ((H ||| 2 ^ j) / 2 ^ i % 2 = if i = j then 1 else H / 2 ^ i % 2) && decide (zclr H (2 ^ j) / 2 ^ i % 2 = if i = j then 0 else H / 2 ^ i % 2)) && (List.range 7).all (fun n => decide (2 ^ n ≤ H) || decide (n ≤ j) || (decide (H ||| 2 ^ j < 2 ^ n) && decide (zclr H (2 ^ j) < 2 ^ n)))) && (List.range 7).all (fun n => decide (2 ^ n ≤ H) || decide (zbc H = zsum (fun i => H / 2 ^ i % 2) n))) = true := by decide +kernel
theorem zhb {H : Nat} (hH : H < 64) : (∀ j i, j < 6 → i < 6 → (H ||| 2 ^ j) / 2 ^ i % 2 = (if i = j then 1 else H / 2 ^ i % 2) ∧ zclr H (2 ^ j) / 2 ^ i % 2 = if i = j then 0 else H / 2 ^ i % 2) ∧ (∀ j n, j < n → n ≤ 6 → H < 2 ^ n → H ||| 2 ^ j < 2 ^ n ∧ zclr H (2 ^ j) < 2 ^ n) ∧ ∀ n, n ≤ 6 → H < 2 ^ n → zbc H = zsum (fun i => H / 2 ^ i % 2) n := by
  have h := List.all_eq_true.mp zhb_0 H (List.mem_range.mpr hH)
  rw [Bool.and_eq_true] at h
  obtain ⟨h1, h2⟩ := h
  refine ⟨fun j i hj hi => ?_, fun j n hj hn hl => ?_, fun n hn hl => ?_⟩
  · have h3 := List.all_eq_true.mp h1 j (List.mem_range.mpr hj)
    rw [Bool.and_eq_true] at h3
    have h4 := List.all_eq_true.mp h3.1 i (List.mem_range.mpr hi)
    rw [Bool.and_eq_true, decide_eq_true_eq, decide_eq_true_eq] at h4
    exact h4
  · have h3 := List.all_eq_true.mp h1 j (List.mem_range.mpr (by omega))
    rw [Bool.and_eq_true] at h3
    have h4 := List.all_eq_true.mp h3.2 n (List.mem_range.mpr (by omega))
    simp only [Bool.or_eq_true, Bool.and_eq_true, decide_eq_true_eq] at h4
    rcases h4 with (q | q) | q
    · omega
    · omega
    · exact q
  · have h3 := List.all_eq_true.mp h2 n (List.mem_range.mpr (by omega))
    simp only [Bool.or_eq_true, decide_eq_true_eq] at h3
    rcases h3 with q | q
    · omega
    · exact q
set_option maxRecDepth 100000 in
theorem zsb_0 : (List.range 64).all (fun x => (List.range 64).all (fun c => (List.range 6).all (fun d => decide ((x &&& (c ||| 2 ^ d) = c ||| 2 ^ d) ↔ (x &&& c = c ∧ ¬ x &&& 2 ^ d = 0)) && decide ((x &&& (c ||| 2 ^ d) = 0) ↔ (x &&& c = 0 ∧ x &&& 2 ^ d = 0))))) = true := by decide +kernel
theorem zsb {x c d : Nat} (hx : x < 64) (hc : c < 64) (hd : d < 6) : ((x &&& (c ||| 2 ^ d) = c ||| 2 ^ d) ↔ (x &&& c = c ∧ ¬ x &&& 2 ^ d = 0)) ∧ ((x &&& (c ||| 2 ^ d) = 0) ↔ (x &&& c = 0 ∧ x &&& 2 ^ d = 0)) := by
  have h := List.all_eq_true.mp (List.all_eq_true.mp (List.all_eq_true.mp zsb_0 x (List.mem_range.mpr hx)) c (List.mem_range.mpr hc)) d (List.mem_range.mpr hd)
  rw [Bool.and_eq_true, decide_eq_true_eq, decide_eq_true_eq] at h
  exact h
