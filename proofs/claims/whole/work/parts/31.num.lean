/-! ===== numbers ===== -/
def zb (p : Prop) [Decidable p] : Int32 := if p then nI 1 else nI 0
theorem zb_0 {p : Prop} [Decidable p] : (zb p = 0) ↔ ¬ p := by unfold zb; by_cases hp : p <;> simp only [hp, if_true, if_false] <;> decide
theorem zb_k {p : Prop} [Decidable p] : zbk (zb p) = true := by unfold zb; by_cases hp : p <;> simp only [hp, if_true, if_false] <;> decide
theorem zn_k1 : zbk (nI 1) = true := by decide
theorem zn_k0 : zbk (nI 0) = true := by decide
theorem zb_t {p : Prop} [Decidable p] (hp : p) : zb p = nI 1 := if_pos hp
theorem zb_f {p : Prop} [Decidable p] (hp : ¬ p) : zb p = nI 0 := if_neg hp
theorem zn_lt {a b : Nat} (ha : a < 2 ^ 31) (hb : b < 2 ^ 31) : (nI a < nI b) ↔ a < b := nI_ltI ha hb
theorem zn_eq {a b : Nat} (ha : a < 2 ^ 31) (hb : b < 2 ^ 31) : (nI a = nI b) ↔ a = b := nI_eq ha hb
theorem zn_lt0 {a : Nat} (ha : a < 2 ^ 31) : (nI a < 0) ↔ False := by rw [← nI_0, nI_ltI ha (by decide)]; simp
theorem zn_eq0 {a : Nat} (ha : a < 2 ^ 31) : (nI a = 0) ↔ a = 0 := by rw [← nI_0, nI_eq ha (by decide)]
theorem zn_0lt {a : Nat} (ha : a < 2 ^ 31) : (0 < nI a) ↔ 0 < a := by rw [← nI_0, nI_ltI (by decide) ha]
theorem zl_of (x : Int32) : x.toInt64.toInt = x.toInt := Int32.toInt_toInt64 x
theorem zl_le {a : Nat} {x : Int32} (ha : a < 2 ^ 31) : (lN a ≤ x.toInt64) ↔ (a : Int) ≤ x.toInt := by rw [Int64.le_iff_toInt_le, zl_of, lN_toInt ha]
theorem zl_ge {a : Nat} {x : Int32} (ha : a < 2 ^ 31) : (x.toInt64 ≤ lN a) ↔ x.toInt ≤ (a : Int) := by rw [Int64.le_iff_toInt_le, zl_of, lN_toInt ha]
theorem zt_n {a : Nat} (ha : a < 2 ^ 31) : (nI a).toInt = (a : Int) := nI_toInt ha
theorem zlg3 (x y : Int64) : (x < y ∧ ¬ y < x ∧ ¬ x = y) ∨ (y < x ∧ ¬ x < y ∧ ¬ x = y) ∨ (x = y ∧ ¬ x < y ∧ ¬ y < x) := by
  simp only [Int64.lt_iff_toInt_lt]
  have e : x = y ↔ x.toInt = y.toInt := ⟨fun h => by rw [h], fun h => Int64.toInt_inj.mp h⟩
  rw [e]
  omega
theorem zlg_lt {x y : Int64} : (lg_cmp x y < 0) ↔ x < y := by
  unfold lg_cmp
  rcases zlg3 x y with ⟨h1, h2, h3⟩ | ⟨h1, h2, h3⟩ | ⟨h1, h2, h3⟩ <;> simp [h1, h2, h3]
theorem zlg_gt {x y : Int64} : (0 < lg_cmp x y) ↔ y < x := by
  unfold lg_cmp
  rcases zlg3 x y with ⟨h1, h2, h3⟩ | ⟨h1, h2, h3⟩ | ⟨h1, h2, h3⟩ <;> simp [h1, h2, h3]
theorem zif_t {p : Prop} {d : Decidable p} {α : Type} {a b : α} (hp : p) : @ite α p d a b = a := if_pos hp
theorem zif_f {p : Prop} {d : Decidable p} {α : Type} {a b : α} (hp : ¬ p) : @ite α p d a b = b := if_neg hp
abbrev zin (i : Int32) (n : Nat) : Prop := 0 ≤ i.toInt ∧ i.toInt < (n : Int)
theorem zin_of {i : Int32} {n : Nat} (h : zin i n) (hn : n < 2 ^ 31) : ∃ j : Nat, j < n ∧ i = nI j := vp_in_of (vp_in_iff.mpr h) hn
theorem zin_n {j n : Nat} (hj : j < 2 ^ 31) : zin (nI j) n ↔ j < n := by unfold zin; rw [nI_toInt hj]; omega
/-- sums -/
def zsum (f : Nat → Nat) : Nat → Nat
  | 0 => 0
  | n + 1 => zsum f n + f n
theorem zsum_congr {f g : Nat → Nat} : ∀ {n : Nat}, (∀ i, i < n → f i = g i) → zsum f n = zsum g n
  | 0, _ => rfl
  | n + 1, h => by rw [zsum, zsum, zsum_congr (fun i hi => h i (by omega)), h n (by omega)]
theorem zsum_le {f : Nat → Nat} {b : Nat} : ∀ {n : Nat}, (∀ i, i < n → f i ≤ b) → zsum f n ≤ n * b
  | 0, _ => by simp [zsum]
  | n + 1, h => by have h1 := zsum_le (n := n) (fun i hi => h i (by omega)); have h2 := h n (by omega); rw [zsum, Nat.succ_mul]; omega
/-- bits -/
theorem zn_and (a b : Nat) : nI a &&& nI b = nI (a &&& b) := by
  apply Int32.toBitVec_inj.mp
  show BitVec.ofNat 32 a &&& BitVec.ofNat 32 b = BitVec.ofNat 32 (a &&& b)
  exact (BitVec.ofNat_and).symm
theorem zn_or (a b : Nat) : nI a ||| nI b = nI (a ||| b) := by
  apply Int32.toBitVec_inj.mp
  show BitVec.ofNat 32 a ||| BitVec.ofNat 32 b = BitVec.ofNat 32 (a ||| b)
  exact (BitVec.ofNat_or).symm
theorem zn_shl : ∀ l, l < 31 → nI 1 <<< (nI l &&& 31) = nI (2 ^ l) := by decide +kernel
theorem zn_msk : ∀ l, l < 32 → ((nI l &&& 31).toBitVec.smod 32).toNat = l := by decide +kernel
theorem zn_shr {n l : Nat} (hn : n < 2 ^ 31) (hl : l < 32) : nI n >>> (nI l &&& 31) = nI (n / 2 ^ l) := pk_shrN hn _ l (zn_msk l hl)
