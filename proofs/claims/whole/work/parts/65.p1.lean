/-! ===== plain mathematics: rings, changes ===== -/
theorem zpig : ∀ (m : Nat) (f : Nat → Nat), (∀ i, i ≤ m → f i < m) → ∃ i j, i < j ∧ j ≤ m ∧ f i = f j
  | 0, f, h => absurd (h 0 (Nat.le_refl 0)) (by omega)
  | m + 1, f, h => by
    by_cases hc : ∃ i, i ≤ m ∧ f i = f (m + 1)
    · obtain ⟨i, h1, h2⟩ := hc
      exact ⟨i, m + 1, by omega, by omega, h2⟩
    · have hn : ∀ i, i ≤ m → f i ≠ f (m + 1) := fun i hi q => hc ⟨i, hi, q⟩
      obtain ⟨i, j, h1, h2, h3⟩ := zpig m (fun i => if f i = m then f (m + 1) else f i) (by
        intro i hi
        have a1 := h i (by omega)
        have a2 := h (m + 1) (by omega)
        have a3 := hn i hi
        show (if f i = m then f (m + 1) else f i) < m
        split <;> omega)
      refine ⟨i, j, h1, by omega, ?_⟩
      have a1 := hn i (by omega)
      have a2 := hn j (by omega)
      have h4 : (if f i = m then f (m + 1) else f i) = (if f j = m then f (m + 1) else f j) := h3
      split at h4 <;> split at h4 <;> omega
/-- p, i times from t on -/
def zit (p : Nat → Nat) : Nat → Nat → Nat
  | 0, t => t
  | i + 1, t => zit p i (p t)
theorem zit_s {p : Nat → Nat} : ∀ {i t : Nat}, zit p (i + 1) t = p (zit p i t)
  | 0, t => rfl
  | i + 1, t => by rw [zit, zit_s]; rfl
theorem zit_add {p : Nat → Nat} : ∀ {i j t : Nat}, zit p (i + j) t = zit p i (zit p j t)
  | 0, j, t => by rw [Nat.zero_add]; rfl
  | i + 1, j, t => by rw [show i + 1 + j = (i + j) + 1 by omega, zit_s, zit_add, zit_s]
theorem zit_lt {p : Nat → Nat} {n : Nat} (hp : ∀ j, j < n → p j < n) : ∀ {i t : Nat}, t < n → zit p i t < n
  | 0, _, h => h
  | i + 1, t, h => by rw [zit]; exact zit_lt hp (hp t h)
theorem zfol_iff {p : Nat → Nat} {k : Nat} : ∀ {r t : Nat}, zfol p k r t = k ↔ ∃ i, i ≤ r ∧ zit p i t = k
  | 0, t => by
    unfold zfol
    constructor
    · intro h; exact ⟨0, Nat.le_refl _, h⟩
    · intro ⟨i, h1, h2⟩; obtain rfl : i = 0 := by omega
      exact h2
  | r + 1, t => by
    unfold zfol
    by_cases h : t = k
    · rw [if_pos h]; exact ⟨fun _ => ⟨0, by omega, h⟩, fun _ => h⟩
    · rw [if_neg h, zfol_iff]
      constructor
      · intro ⟨i, h1, h2⟩; exact ⟨i + 1, by omega, h2⟩
      · intro ⟨i, h1, h2⟩
        cases i with
        | zero => exact absurd h2 h
        | succ i => exact ⟨i, by omega, h2⟩
/-- who is in a ring comes back within as many steps as there are persons -/
theorem zfol_6 {p : Nat → Nat} {n k : Nat} (hn : n ≤ 6) (hp : ∀ j, j < n → p j < n) (hk : k < n) : zfol p k (n - 1) (p k) = k ↔ zfol p k 6 (p k) = k := by
  rw [zfol_iff, zfol_iff]
  constructor
  · intro ⟨i, h1, h2⟩; exact ⟨i, by omega, h2⟩
  · -- the least way back
    have key : ∀ m i, i ≤ m → zit p i (p k) = k → ∃ i, i ≤ n - 1 ∧ zit p i (p k) = k := by
      intro m
      induction m with
      | zero => intro i hi h; exact ⟨i, by omega, h⟩
      | succ m ih =>
        intro i hi h
        by_cases c : i ≤ n - 1
        · exact ⟨i, c, h⟩
        · obtain ⟨a, b, h1, h2, h3⟩ := zpig n (fun j => zit p j (p k)) (fun j _ => zit_lt hp (hp k hk))
          have h3' : zit p a (p k) = zit p b (p k) := h3
          have e : zit p (i - b + a) (p k) = k := by
            rw [zit_add, h3', ← zit_add, show i - b + b = i by omega]; exact h
          exact ih (i - b + a) (by omega) e
    intro ⟨i, h1, h2⟩
    exact key i i (Nat.le_refl _) h2
theorem zclr_0 : (List.range 64).all (fun a => (List.range 64).all (fun g => (decide (zclr a g / 2 ^ 0 % 2 = 1 → a / 2 ^ 0 % 2 = 1)) && (decide (a &&& g = 0) || decide (zbc (zclr a g) < zbc a)) && (List.range 6).all (fun k => decide (zclr (zclr a g) (2 ^ k) = zclr a (g ||| 2 ^ k)) && (decide (¬ g / 2 ^ k % 2 = 1) || decide (¬ a / 2 ^ k % 2 = 1) || decide (¬ a &&& g = 0))))) = true := by decide +kernel
theorem zclr_a {a g : Nat} (ha : a < 64) (hg : g < 64) : (a &&& g ≠ 0 → zbc (zclr a g) < zbc a) ∧ ∀ k, k < 6 → zclr (zclr a g) (2 ^ k) = zclr a (g ||| 2 ^ k) ∧ (g / 2 ^ k % 2 = 1 → a / 2 ^ k % 2 = 1 → a &&& g ≠ 0) := by
  have h := List.all_eq_true.mp (List.all_eq_true.mp zclr_0 a (List.mem_range.mpr ha)) g (List.mem_range.mpr hg)
  rw [Bool.and_eq_true, Bool.and_eq_true] at h
  obtain ⟨⟨_, h1⟩, h2⟩ := h
  refine ⟨fun q => ?_, fun k hk => ?_⟩
  · rw [Bool.or_eq_true, decide_eq_true_eq, decide_eq_true_eq] at h1
    rcases h1 with h1 | h1
    · exact absurd h1 q
    · exact h1
  · have h3 := List.all_eq_true.mp h2 k (List.mem_range.mpr hk)
    simp only [Bool.and_eq_true, Bool.or_eq_true, decide_eq_true_eq] at h3
    refine ⟨h3.1, fun q1 q2 => ?_⟩
    rcases h3.2 with (h4 | h4) | h4
    · exact absurd q1 h4
    · exact absurd q2 h4
    · exact h4
theorem zbc_z0 : (List.range 64).all (fun a => decide (a = 0) || decide (0 < zbc a)) = true := by decide +kernel
theorem zbc_z {a : Nat} (ha : a < 64) (h : zbc a = 0) : a = 0 := by
  have h1 := List.all_eq_true.mp zbc_z0 a (List.mem_range.mpr ha)
  simp only [Bool.or_eq_true, decide_eq_true_eq] at h1
  omega
theorem zbc_full : ∀ n, n ≤ 6 → zbc (2 ^ n - 1) = n
  | 0, _ | 1, _ | 2, _ | 3, _ | 4, _ | 5, _ | 6, _ => by decide
  | k + 7, h => by omega
/-- one after the other, or at once -/
def zstay (c : Nat → Bool) (left : Nat) : Nat → Nat
  | 0 => left
  | k + 1 => if c k = true then zclr (zstay c left k) (2 ^ k) else zstay c left k
theorem zstay_clr {c : Nat → Bool} {left : Nat} (hl : left < 64) : ∀ {k : Nat}, k ≤ 6 → zstay c left k = zclr left (zgb c k)
  | 0, _ => by unfold zstay zgb zclr; rw [Nat.and_zero]; rfl
  | k + 1, hk => by
    unfold zstay zgb
    rw [zstay_clr hl (by omega)]
    split
    · exact ((zclr_a hl (zgb_lt (c := c) (k := k) (by omega))).2 k (by omega)).1
    · rfl
theorem zgb_bit {c : Nat → Bool} {k : Nat} (hc : c k = true) : ∀ {n : Nat}, k < n → n ≤ 6 → zgb c n / 2 ^ k % 2 = 1
  | 0, h, _ => by omega
  | n + 1, h, hn => by
    have t : ∀ x : Nat, x / 2 ^ k % 2 = 1 ↔ x.testBit k = true := by
      intro x; rw [Nat.testBit_eq_decide_div_mod_eq, decide_eq_true_eq]
    rw [t]
    unfold zgb
    by_cases e : k = n
    · subst e; rw [if_pos hc, Nat.testBit_or, Nat.testBit_two_pow_self, Bool.or_true]
    · have ih := (t _).mp (zgb_bit hc (n := n) (by omega) (by omega))
      split
      · rw [Nat.testBit_or, ih, Bool.true_or]
      · exact ih
theorem zbit_lt {a n k : Nat} (ha : a < 2 ^ n) (h : a / 2 ^ k % 2 = 1) : k < n := by
  have t : a.testBit k = true := by rw [Nat.testBit_eq_decide_div_mod_eq, decide_eq_true_eq]; exact h
  by_cases hk : k < n
  · exact hk
  · have := Nat.testBit_lt_two_pow (Nat.lt_of_lt_of_le ha (Nat.pow_le_pow_right (by decide) (Nat.not_lt.mp hk)))
    rw [this] at t; cases t
theorem zbit_ex0 : (List.range 64).all (fun a => decide (a = 0) || (List.range 6).any (fun k => decide (a / 2 ^ k % 2 = 1))) = true := by decide +kernel
theorem zbit_ex {a : Nat} (ha : a < 64) (h : a ≠ 0) : ∃ k, a / 2 ^ k % 2 = 1 := by
  have h1 := List.all_eq_true.mp zbit_ex0 a (List.mem_range.mpr ha)
  rw [Bool.or_eq_true, decide_eq_true_eq, List.any_eq_true] at h1
  rcases h1 with h1 | ⟨k, _, h2⟩
  · exact absurd h1 h
  · exact ⟨k, of_decide_eq_true h2⟩
/-- who points, points into what is left -/
theorem zptN_left {lc : Nat} {wo kk : Nat → Nat} {left i : Nat} (hi : left / 2 ^ i % 2 = 1) : ∀ {j : Nat}, left / 2 ^ (zptN (zptc lc wo kk left i) i j) % 2 = 1
  | 0 => hi
  | j + 1 => by
    unfold zptN
    split
    · rename_i h; exact (of_decide_eq_true h).1
    · exact zptN_left hi
theorem zpt_left {lc : Nat} {wo kk : Nat → Nat} {n left i : Nat} (hi : left / 2 ^ i % 2 = 1) : left / 2 ^ (zpt lc wo kk n left i) % 2 = 1 := by
  unfold zpt
  split
  · exact zptN_left hi
  · exact hi
/-- in every round somebody leaves -/
theorem zrd_ring {lc : Nat} {wo kk : Nat → Nat} {n left : Nat} (hn : n ≤ 6) (hl : left < 2 ^ n) (h0 : left ≠ 0) : zbc (zrdL lc wo kk n left) < zbc left := by
  have hl6 : left < 64 := Nat.lt_of_lt_of_le hl (Nat.le_trans (Nat.pow_le_pow_right (by decide) hn) (by decide))
  obtain ⟨k0, hk0⟩ := zbit_ex hl6 h0
  have hkn := zbit_lt hl hk0
  have hp : ∀ j, j < n → zpt lc wo kk n left j < n := fun j hj => zpt_lt hj
  have hlive : ∀ i, left / 2 ^ (zit (zpt lc wo kk n left) i k0) % 2 = 1 := by
    intro i
    induction i with
    | zero => exact hk0
    | succ i ih => rw [zit_s]; exact zpt_left ih
  obtain ⟨a, b, h1, h2, h3⟩ := zpig n (fun j => zit (zpt lc wo kk n left) j k0) (fun j _ => zit_lt hp hkn)
  have h3' : zit (zpt lc wo kk n left) a k0 = zit (zpt lc wo kk n left) b k0 := h3
  have hk : zit (zpt lc wo kk n left) a k0 < n := zit_lt hp hkn
  have hr : zrin (zpt lc wo kk n left) left (zit (zpt lc wo kk n left) a k0) = true := by
    unfold zrin
    refine decide_eq_true ⟨hlive a, zfol_iff.mpr ⟨b - a - 1, by omega, ?_⟩⟩
    have e : zit (zpt lc wo kk n left) (b - a - 1) (zpt lc wo kk n left (zit (zpt lc wo kk n left) a k0)) = zit (zpt lc wo kk n left) b k0 := by
      rw [← zit_s (p := zpt lc wo kk n left) (i := a) (t := k0), ← zit_add]; congr 1; omega
    rw [e, h3']
  have hb := zgb_bit hr hk hn
  have hg := zgb_lt (c := zrin (zpt lc wo kk n left) left) (k := n) hn
  have ha := zclr_a hl6 hg
  exact ha.1 ((ha.2 _ (by omega)).2 hb (hlive a))
theorem zclr_le (a c : Nat) : zclr a c ≤ a := Nat.sub_le _ _
theorem zrdT_of {lc : Nat} {wo kk : Nat → Nat} {n : Nat} (hn : n ≤ 6) : ∀ {r left : Nat}, left < 2 ^ n → zbc left ≤ r → zrdT lc wo kk n r left
  | 0, left, hl, hb => zbc_z (Nat.lt_of_lt_of_le hl (Nat.le_trans (Nat.pow_le_pow_right (by decide) hn) (by decide))) (by omega)
  | r + 1, left, hl, hb => by
    unfold zrdT
    by_cases h0 : left = 0
    · exact Or.inl h0
    · refine Or.inr (zrdT_of hn (Nat.lt_of_le_of_lt (zclr_le _ _) hl) ?_)
      have := zrd_ring (lc := lc) (wo := wo) (kk := kk) hn hl h0
      omega
theorem zrdT_n {lc : Nat} {wo kk : Nat → Nat} {n : Nat} (hn : n ≤ 6) : zrdT lc wo kk n n (2 ^ n - 1) :=
  zrdT_of hn (by have := Nat.two_pow_pos n; omega) (by rw [zbc_full n hn]; exact Nat.le_refl _)
/-! changes end -/
theorem zsum_lt {f g : Nat → Nat} {a : Nat} : ∀ {n : Nat}, (∀ i, i < n → f i ≤ g i) → a < n → f a < g a → zsum f n < zsum g n
  | 0, _, h, _ => by omega
  | n + 1, h, ha, hg => by
    unfold zsum
    have h1 := h n (by omega)
    by_cases e : a = n
    · subst e
      have h2 : ∀ {m : Nat}, m ≤ a → zsum f m ≤ zsum g m := by
        intro m
        induction m with
        | zero => intro _; exact Nat.le_refl _
        | succ m ih => intro hm; have := ih (by omega); have := h m (by omega); unfold zsum; omega
      have := h2 (Nat.le_refl a)
      omega
    · have := zsum_lt (fun i hi => h i (by omega)) (show a < n by omega) hg
      omega
def zpot (wo kf : Nat → Nat) (n : Nat) (W : Nat → Nat) : Nat := zsum (fun i => wo (5 * i + kf (W i))) n
theorem zpot_lt {lc : Nat} {wo kf : Nat → Nat} {n q : Nat} {W : Nat → Nat} (hn : n ≤ 6) (h : zfW lc wo kf n W = some q) : zpot wo kf n W < zpot wo kf n (zsw W (q / 10) (q % 10)) := by
  obtain ⟨h1, h2, h3, h4, h5⟩ := zfW_lt h hn
  obtain ⟨_, _, l1, l2⟩ := h5
  unfold zpot
  refine zsum_lt (a := q / 10) (fun i hi => ?_) h1 ?_
  · unfold zsw va_up
    by_cases e1 : i = q % 10
    · subst e1; rw [if_pos rfl]; exact Nat.le_of_lt l2
    · rw [if_neg e1]
      by_cases e2 : i = q / 10
      · subst e2; rw [if_pos rfl]; exact Nat.le_of_lt l1
      · rw [if_neg e2]; exact Nat.le_refl _
  · unfold zsw va_up
    rw [if_neg (by omega), if_pos rfl]; exact l1
theorem zacT_of {lc : Nat} {wo kf : Nat → Nat} {n : Nat} (hn : n ≤ 6) (hb : ∀ W, (∀ i, i < 6 → W i < 6) → zpot wo kf n W ≤ 54) : ∀ {r : Nat} {W : Nat → Nat}, (∀ i, i < 6 → W i < 6) → 54 ≤ zpot wo kf n W + r → zacT lc wo kf n r W
  | 0, W, hW, h => by
    unfold zacT
    cases hz : zfW lc wo kf n W with
    | none => rfl
    | some q =>
      have := zpot_lt hn hz
      obtain ⟨h1, h2, _⟩ := zfW_lt hz hn
      have := hb _ (zsw_lt (a := q / 10) (b := q % 10) hW (by omega) (by omega))
      omega
  | r + 1, W, hW, h => by
    unfold zacT
    cases hz : zfW lc wo kf n W with
    | none => trivial
    | some q =>
      have := zpot_lt hn hz
      obtain ⟨h1, h2, _⟩ := zfW_lt hz hn
      exact zacT_of hn hb (zsw_lt (a := q / 10) (b := q % 10) hW (by omega) (by omega)) (by omega)
theorem zacT_54 {lc : Nat} {wo kf : Nat → Nat} {n : Nat} {W : Nat → Nat} (hn : n ≤ 6) (hwo : ∀ q, q < 30 → wo q < 10) (hk : ∀ m, m < 6 → kf m < 5) (hW : ∀ i, i < 6 → W i < 6) : zacT lc wo kf n 54 W := by
  refine zacT_of hn (fun V hV => ?_) hW (by omega)
  have h1 : zpot wo kf n V ≤ n * 9 := zsum_le (fun i hi => by
    have a1 := hV i (by omega)
    have a2 := hk _ a1
    have a3 := hwo (5 * i + kf (V i)) (by omega)
    omega)
  omega
theorem zacW_lt {lc : Nat} {wo kf : Nat → Nat} {n : Nat} (hn : n ≤ 6) : ∀ {r : Nat} {W : Nat → Nat}, (∀ i, i < 6 → W i < 6) → ∀ i, i < 6 → zacW lc wo kf n r W i < 6
  | 0, _, h => h
  | r + 1, W, h => by
    unfold zacW
    cases hz : zfW lc wo kf n W with
    | none => exact h
    | some q =>
      obtain ⟨h1, h2, _⟩ := zfW_lt hz hn
      exact zacW_lt hn (zsw_lt (a := q / 10) (b := q % 10) h (by omega) (by omega))
