/-! ===== the reference: an item by its letter ===== -/
theorem znb2_inv {t : Nat → Nat} {len p lo hi e a q : Nat} (h : znb2 t len p lo hi e = some (a, q)) : ∃ s, znum t len p = some (a, s) ∧ s < len ∧ t s = e ∧ lo ≤ a ∧ a ≤ hi ∧ q = s + 1 := by
  unfold znb2 at h
  cases hz : znum t len p with
  | none => rw [hz] at h; cases h
  | some s =>
    obtain ⟨a', s⟩ := s
    rw [hz] at h
    have h' : (if s < len ∧ t s = e ∧ lo ≤ a' ∧ a' ≤ hi then some (a', s + 1) else none) = some (a, q) := h
    by_cases c : s < len ∧ t s = e ∧ lo ≤ a' ∧ a' ≤ hi
    · rw [if_pos c] at h'; cases h'; exact ⟨s, rfl, c.1, c.2.1, c.2.2.1, c.2.2.2, rfl⟩
    · rw [if_neg c] at h'; cases h'
theorem znb2_mk {t : Nat → Nat} {len p lo hi e a s : Nat} (h : znum t len p = some (a, s)) (h1 : s < len) (h2 : t s = e) (h3 : lo ≤ a) (h4 : a ≤ hi) : znb2 t len p lo hi e = some (a, s + 1) := by
  unfold znb2; rw [h]; exact if_pos ⟨h1, h2, h3, h4⟩
theorem zdig_eq {t : Nat → Nat} {len : Nat} : ∀ {k r p : Nat}, (∀ j, j < k → zD t len (p + j)) → ¬ zD t len (p + k) → k < r → zdig t len r p = k
  | 0, 0, _, _, _, h => by omega
  | 0, r + 1, p, _, hn, _ => by rw [zdig_s]; exact if_neg hn
  | k + 1, 0, _, _, _, h => by omega
  | k + 1, r + 1, p, hd, hn, h => by
    rw [zdig_s, if_pos (show zD t len p from hd 0 (by omega)), zdig_eq (k := k) (fun j hj => by have := hd (j + 1) (by omega); rw [show p + 1 + j = p + (j + 1) by omega]; exact this) (by rw [show p + 1 + k = p + (k + 1) by omega]; exact hn) (by omega)]
    omega
theorem zdig_D {t : Nat → Nat} {len : Nat} : ∀ {r p j : Nat}, j < zdig t len r p → zD t len (p + j)
  | 0, _, _, h => by unfold zdig at h; omega
  | r + 1, p, j, h => by
    rw [zdig_s] at h
    by_cases c : zD t len p
    · rw [if_pos c] at h
      cases j with
      | zero => exact c
      | succ j => have := zdig_D (t := t) (len := len) (r := r) (p := p + 1) (j := j) (by omega); rw [show p + (j + 1) = p + 1 + j by omega]; exact this
    · rw [if_neg c] at h; omega
section
variable {xs : Nat → Int32} {L : Nat} {C h : ZH} {len at_ kep don see : Nat} {fit : Int32} {tx : Nat → Int32} {td ki kd pe sk wo sl sa wy be po mh : Nat → Nat} {go : Nat → Int32}  {t : Nat → Nat} {a b c q : Nat}
abbrev zFailM (xs : Nat → Int32) (L : Nat) (C : ZH) (td wo : Nat → Nat) (M0 : Nat → (Nat → Nat) → (Nat → Nat) → (Nat → Int32) → ZH) (M : ZH) : Prop := ∃ p' td' wo' g, td' 0 = td 0 ∧ td' 1 = td 1 ∧ (∀ j, j < 30 → wo' j = wo j) ∧ (∀ j, j < 60 → wo' j < 10) ∧ zev xs L 107 0 [.ref 104, .null, .null, .null, .null] [] (C ++ M) = some (some (.int (nI 0)), C ++ M0 p' td' wo' g)
theorem mi_x_no (hC : C.length = 104) (hl : len ≤ 300) (ht : ∀ j, t j < 256) (htx : ∀ j, j < len → tx j = zsx (t j)) (hp : at_ < len) (hwo : ∀ j, j < 60 → wo j < 10) (h1 : ¬ t at_ = 107) (h2 : ¬ t at_ = 112) (h3 : ¬ t at_ = 100) (h4 : ¬ t at_ = 108) (h5 : ¬ t at_ = 119) : zFailM xs L C td wo (fun p' td' wo' g => zM len (p') kep don see fit tx (td') ki kd pe sk (wo') sl sa wy be po mh (g)) (zM len at_ kep don see fit tx td ki kd pe sk wo sl sa wy be po mh go) :=
  ⟨at_ + 1 + 1, td, wo, go, rfl, rfl, fun _ _ => rfl, hwo, e_it_other hC hl ht htx hp h1 h2 h3 h4 h5⟩
/-- one number and the sign behind it -/
theorem mi_1_ok (hC : C.length = 104) (hl : len ≤ 300) (ht : ∀ j, t j < 256) (htx : ∀ j, j < len → tx j = zsx (t j)) (hp : at_ < len) {l s : Nat} (hlt : t at_ = l) (hc : l = 112 ∨ l = 100 ∨ l = 108) (hz : znum t len (at_ + 1) = some (a, s)) (c1 : s < len) (c2 : t s = 59) {y : Int32} {H : ZH} (hG : zev xs L 108 0 [.ref 104, .int (nI l), .null, .null] [] (C ++ zM len (s + 1) kep don see fit tx td ki kd pe sk wo sl sa wy be po mh (va_up go 0 (nI a))) = some (some (.int y), H)) (hy : y = nI 0 ∨ y = nI 1) : zev xs L 107 0 [.ref 104, .null, .null, .null, .null] [] (C ++ zM len at_ kep don see fit tx td ki kd pe sk wo sl sa wy be po mh go) = some (some (.int y), H) := by
  have e0 := l_it0 (xs := xs) (L := L) (len := len) (at_ := at_) (kep := kep) (don := don) (see := see) (fit := fit) (tx := tx) (td := td) (ki := ki) (kd := kd) (pe := pe) (sk := sk) (wo := wo) (sl := sl) (sa := sa) (wy := wy) (be := be) (po := po) (mh := mh) (go := go) (C := C) hC hl htx hp hlt (n := 1) (Or.inr ⟨hc, rfl⟩)
  have e1 := l_itS (xs := xs) (L := L) (len := len) (kep := kep) (don := don) (see := see) (fit := fit) (tx := tx) (td := td) (ki := ki) (kd := kd) (pe := pe) (sk := sk) (wo := wo) (sl := sl) (sa := sa) (wy := wy) (be := be) (po := po) (mh := mh) (go := go) (at_ := at_ + 1) (C := C) (t := t) hC hl ht htx (v1 := .int (nI l)) (n := 1) (k := 0) (a := a) (q := s) (s := at_ + 1) (by omega) (by omega) (Or.inl ⟨rfl, rfl⟩) (by omega) hz
  have e2 := l_itE (xs := xs) (L := L) (len := len) (kep := kep) (don := don) (see := see) (fit := fit) (tx := tx) (td := td) (ki := ki) (kd := kd) (pe := pe) (sk := sk) (wo := wo) (sl := sl) (sa := sa) (wy := wy) (be := be) (po := po) (mh := mh) (at_ := s) (go := va_up go 0 (nI a)) (C := C) (t := t) hC hl ht htx (l := l) (n := 1) (by omega) (by omega) (by omega) c1 c2 hG hy
  exact e0.trans (e1.trans e2)
theorem mi_1_no (hC : C.length = 104) (hl : len ≤ 300) (ht : ∀ j, t j < 256) (htx : ∀ j, j < len → tx j = zsx (t j)) (hp : at_ < len) {l : Nat} (hlt : t at_ = l) (hc : l = 112 ∨ l = 100 ∨ l = 108) (hwo : ∀ j, j < 60 → wo j < 10) (hn : ¬ ∃ a s, znum t len (at_ + 1) = some (a, s) ∧ s < len ∧ t s = 59) : zFailM xs L C td wo (fun p' td' wo' g => zM len (p') kep don see fit tx (td') ki kd pe sk (wo') sl sa wy be po mh (g)) (zM len at_ kep don see fit tx td ki kd pe sk wo sl sa wy be po mh go) := by
  have e0 := l_it0 (xs := xs) (L := L) (len := len) (at_ := at_) (kep := kep) (don := don) (see := see) (fit := fit) (tx := tx) (td := td) (ki := ki) (kd := kd) (pe := pe) (sk := sk) (wo := wo) (sl := sl) (sa := sa) (wy := wy) (be := be) (po := po) (mh := mh) (go := go) (C := C) hC hl htx hp hlt (n := 1) (Or.inr ⟨hc, rfl⟩)
  cases hz : znum t len (at_ + 1) with
  | none =>
    obtain ⟨p', g, e1⟩ := l_itX (xs := xs) (L := L) (len := len) (kep := kep) (don := don) (see := see) (fit := fit) (tx := tx) (td := td) (ki := ki) (kd := kd) (pe := pe) (sk := sk) (wo := wo) (sl := sl) (sa := sa) (wy := wy) (be := be) (po := po) (mh := mh) (go := go) (at_ := at_ + 1) (C := C) (t := t) hC hl ht htx (v1 := .int (nI l)) (n := 1) (k := 0) (by omega) (by omega) (by omega) (Or.inl ⟨rfl, hz⟩)
    exact ⟨p', td, wo, g, rfl, rfl, fun _ _ => rfl, hwo, e0.trans e1⟩
  | some s =>
    obtain ⟨a, s⟩ := s
    have hv := znum_v ht (by omega) hz
    have e1 := l_itS (xs := xs) (L := L) (len := len) (kep := kep) (don := don) (see := see) (fit := fit) (tx := tx) (td := td) (ki := ki) (kd := kd) (pe := pe) (sk := sk) (wo := wo) (sl := sl) (sa := sa) (wy := wy) (be := be) (po := po) (mh := mh) (go := go) (at_ := at_ + 1) (C := C) (t := t) hC hl ht htx (v1 := .int (nI l)) (n := 1) (k := 0) (a := a) (q := s) (s := at_ + 1) (by omega) (by omega) (Or.inl ⟨rfl, rfl⟩) (by omega) hz
    have e2 := l_itE0 (xs := xs) (L := L) (len := len) (kep := kep) (don := don) (see := see) (fit := fit) (tx := tx) (td := td) (ki := ki) (kd := kd) (pe := pe) (sk := sk) (wo := wo) (sl := sl) (sa := sa) (wy := wy) (be := be) (po := po) (mh := mh) (at_ := s) (go := va_up go 0 (nI a)) (C := C) (t := t) hC hl hv.2 ht htx (v1 := .int (nI l)) (n := 1) (by omega) (fun q => hn ⟨a, s, hz, q⟩)
    exact ⟨s + 1, td, wo, va_up go 0 (nI a), rfl, rfl, fun _ _ => rfl, hwo, e0.trans (e1.trans e2)⟩
theorem mi_p_ok (hC : C.length = 104) (hl : len ≤ 300) (ht : ∀ j, t j < 256) (htx : ∀ j, j < len → tx j = zsx (t j)) (hp : at_ < len) (hlt : t at_ = 112) (hpe : pe 1 < 6) (hz : znb2 t len (at_ + 1) 0 63 59 = some (a, q)) : zev xs L 107 0 [.ref 104, .null, .null, .null, .null] [] (C ++ zM len at_ kep don see fit tx td ki kd pe sk wo sl sa wy be po mh go) = some (some (.int (nI 1)), C ++ zM len (q) kep don see fit tx td ki kd (va_up pe 1 (pe 1 + 1)) (va_up sk (6 + pe 1) a) (va_up (va_up (va_up (va_up (va_up wo (30 + 5 * pe 1) 0) (30 + 5 * pe 1 + 1) 0) (30 + 5 * pe 1 + 2) 0) (30 + 5 * pe 1 + 3) 0) (30 + 5 * pe 1 + 4) 0) sl sa wy be po mh (va_up go 0 (nI a))) := by
  obtain ⟨s, z1, z2, z3, z4, z5, rfl⟩ := znb2_inv hz
  have hG := e_good_p (xs := xs) (L := L) (len := len) (kep := kep) (don := don) (see := see) (fit := fit) (tx := tx) (td := td) (ki := ki) (kd := kd) (pe := pe) (sk := sk) (wo := wo) (sl := sl) (sa := sa) (wy := wy) (be := be) (po := po) (mh := mh) (at_ := s + 1) (go := va_up go 0 (nI a)) (C := C) hC (va_up_self _ _ _) (a := a) (by omega) (by omega)
  rw [if_pos ⟨z5, by omega⟩] at hG
  exact mi_1_ok hC hl ht htx hp hlt (Or.inl rfl) z1 z2 z3 hG (Or.inr rfl)
theorem mi_p_no (hC : C.length = 104) (hl : len ≤ 300) (ht : ∀ j, t j < 256) (htx : ∀ j, j < len → tx j = zsx (t j)) (hp : at_ < len) (hlt : t at_ = 112) (hpe : pe 1 ≤ 6) (hwo : ∀ j, j < 60 → wo j < 10) (hn : ¬ ((∃ a q, znb2 t len (at_ + 1) 0 63 59 = some (a, q)) ∧ pe 1 < 6)) : zFailM xs L C td wo (fun p' td' wo' g => zM len (p') kep don see fit tx (td') ki kd pe sk (wo') sl sa wy be po mh (g)) (zM len at_ kep don see fit tx td ki kd pe sk wo sl sa wy be po mh go) := by
  by_cases c : ∃ a s, znum t len (at_ + 1) = some (a, s) ∧ s < len ∧ t s = 59
  · obtain ⟨a, s, z1, z2, z3⟩ := c
    have hv := znum_v ht (by omega) z1
    have hG := e_good_p (xs := xs) (L := L) (len := len) (kep := kep) (don := don) (see := see) (fit := fit) (tx := tx) (td := td) (ki := ki) (kd := kd) (pe := pe) (sk := sk) (wo := wo) (sl := sl) (sa := sa) (wy := wy) (be := be) (po := po) (mh := mh) (at_ := s + 1) (go := va_up go 0 (nI a)) (C := C) hC (va_up_self _ _ _) (a := a) hv.1 hpe
    rw [if_neg (fun q => hn ⟨⟨a, s + 1, znb2_mk z1 z2 z3 (by omega) q.1⟩, by omega⟩)] at hG
    exact ⟨s + 1, td, wo, va_up go 0 (nI a), rfl, rfl, fun _ _ => rfl, hwo, mi_1_ok hC hl ht htx hp hlt (Or.inl rfl) z1 z2 z3 hG (Or.inl rfl)⟩
  · exact mi_1_no hC hl ht htx hp hlt (Or.inl rfl) hwo c
theorem mi_d_ok (hC : C.length = 104) (hl : len ≤ 300) (ht : ∀ j, t j < 256) (htx : ∀ j, j < len → tx j = zsx (t j)) (hp : at_ < len) (hlt : t at_ = 100) (hz : znb2 t len (at_ + 1) 0 63 59 = some (a, q)) : zev xs L 107 0 [.ref 104, .null, .null, .null, .null] [] (C ++ zM len at_ kep don see fit tx td ki kd pe sk wo sl sa wy be po mh go) = some (some (.int (nI 1)), C ++ zM len (q) kep don see fit tx (va_up td 2 a) ki kd pe sk wo sl sa wy be po mh (va_up go 0 (nI a))) := by
  obtain ⟨s, z1, z2, z3, z4, z5, rfl⟩ := znb2_inv hz
  have hG := e_good_d (xs := xs) (L := L) (len := len) (kep := kep) (don := don) (see := see) (fit := fit) (tx := tx) (td := td) (ki := ki) (kd := kd) (pe := pe) (sk := sk) (wo := wo) (sl := sl) (sa := sa) (wy := wy) (be := be) (po := po) (mh := mh) (at_ := s + 1) (go := va_up go 0 (nI a)) (C := C) hC (va_up_self _ _ _) (a := a) (by omega)
  rw [zb_t z5] at hG
  exact mi_1_ok hC hl ht htx hp hlt (Or.inr (Or.inl rfl)) z1 z2 z3 hG (Or.inr rfl)
theorem mi_d_no (hC : C.length = 104) (hl : len ≤ 300) (ht : ∀ j, t j < 256) (htx : ∀ j, j < len → tx j = zsx (t j)) (hp : at_ < len) (hlt : t at_ = 100) (hwo : ∀ j, j < 60 → wo j < 10) (hn : znb2 t len (at_ + 1) 0 63 59 = none) : zFailM xs L C td wo (fun p' td' wo' g => zM len (p') kep don see fit tx (td') ki kd pe sk (wo') sl sa wy be po mh (g)) (zM len at_ kep don see fit tx td ki kd pe sk wo sl sa wy be po mh go) := by
  by_cases c : ∃ a s, znum t len (at_ + 1) = some (a, s) ∧ s < len ∧ t s = 59
  · obtain ⟨a, s, z1, z2, z3⟩ := c
    have hv := znum_v ht (by omega) z1
    have hG := e_good_d (xs := xs) (L := L) (len := len) (kep := kep) (don := don) (see := see) (fit := fit) (tx := tx) (td := td) (ki := ki) (kd := kd) (pe := pe) (sk := sk) (wo := wo) (sl := sl) (sa := sa) (wy := wy) (be := be) (po := po) (mh := mh) (at_ := s + 1) (go := va_up go 0 (nI a)) (C := C) hC (va_up_self _ _ _) (a := a) hv.1
    rw [zb_f (fun q => by rw [znb2_mk z1 z2 z3 (Nat.zero_le a) q] at hn; cases hn)] at hG
    exact ⟨s + 1, va_up td 2 a, wo, va_up go 0 (nI a), va_up_ne _ _ (by omega), va_up_ne _ _ (by omega), fun _ _ => rfl, hwo, mi_1_ok hC hl ht htx hp hlt (Or.inr (Or.inl rfl)) z1 z2 z3 hG (Or.inl rfl)⟩
  · exact mi_1_no hC hl ht htx hp hlt (Or.inr (Or.inl rfl)) hwo c
theorem mi_l_ok (hC : C.length = 104) (hl : len ≤ 300) (ht : ∀ j, t j < 256) (htx : ∀ j, j < len → tx j = zsx (t j)) (hp : at_ < len) (hlt : t at_ = 108) (hk : ki 1 ≤ 5) (hz : znb2 t len (at_ + 1) 0 5 59 = some (a, q)) (ha : a < ki 1) : zev xs L 107 0 [.ref 104, .null, .null, .null, .null] [] (C ++ zM len at_ kep don see fit tx td ki kd pe sk wo sl sa wy be po mh go) = some (some (.int (nI 1)), C ++ zM len (q) kep don see fit tx (va_up td 3 (td 3 ||| 2 ^ a)) ki kd pe sk wo sl sa wy be po mh (va_up go 0 (nI a))) := by
  obtain ⟨s, z1, z2, z3, z4, z5, rfl⟩ := znb2_inv hz
  have hG := e_good_l (xs := xs) (L := L) (len := len) (kep := kep) (don := don) (see := see) (fit := fit) (tx := tx) (td := td) (ki := ki) (kd := kd) (pe := pe) (sk := sk) (wo := wo) (sl := sl) (sa := sa) (wy := wy) (be := be) (po := po) (mh := mh) (at_ := s + 1) (go := va_up go 0 (nI a)) (C := C) hC (va_up_self _ _ _) (a := a) (by omega) hk
  rw [if_pos ha] at hG
  exact mi_1_ok hC hl ht htx hp hlt (Or.inr (Or.inr rfl)) z1 z2 z3 hG (Or.inr rfl)
theorem mi_l_no (hC : C.length = 104) (hl : len ≤ 300) (ht : ∀ j, t j < 256) (htx : ∀ j, j < len → tx j = zsx (t j)) (hp : at_ < len) (hlt : t at_ = 108) (hk : ki 1 ≤ 5) (hwo : ∀ j, j < 60 → wo j < 10) (hn : ¬ ∃ a q, znb2 t len (at_ + 1) 0 5 59 = some (a, q) ∧ a < ki 1) : zFailM xs L C td wo (fun p' td' wo' g => zM len (p') kep don see fit tx (td') ki kd pe sk (wo') sl sa wy be po mh (g)) (zM len at_ kep don see fit tx td ki kd pe sk wo sl sa wy be po mh go) := by
  by_cases c : ∃ a s, znum t len (at_ + 1) = some (a, s) ∧ s < len ∧ t s = 59
  · obtain ⟨a, s, z1, z2, z3⟩ := c
    have hv := znum_v ht (by omega) z1
    have hG := e_good_l (xs := xs) (L := L) (len := len) (kep := kep) (don := don) (see := see) (fit := fit) (tx := tx) (td := td) (ki := ki) (kd := kd) (pe := pe) (sk := sk) (wo := wo) (sl := sl) (sa := sa) (wy := wy) (be := be) (po := po) (mh := mh) (at_ := s + 1) (go := va_up go 0 (nI a)) (C := C) hC (va_up_self _ _ _) (a := a) hv.1 hk
    rw [if_neg (fun q => hn ⟨a, s + 1, znb2_mk z1 z2 z3 (Nat.zero_le a) (by omega), q⟩)] at hG
    exact ⟨s + 1, va_up td 3 (td 3 ||| 0), wo, va_up go 0 (nI a), va_up_ne _ _ (by omega), va_up_ne _ _ (by omega), fun _ _ => rfl, hwo, mi_1_ok hC hl ht htx hp hlt (Or.inr (Or.inr rfl)) z1 z2 z3 hG (Or.inl rfl)⟩
  · exact mi_1_no hC hl ht htx hp hlt (Or.inr (Or.inr rfl)) hwo c
theorem mi_k3 (hC : C.length = 104) (hl : len ≤ 300) (ht : ∀ j, t j < 256) (htx : ∀ j, j < len → tx j = zsx (t j)) (hp : at_ < len) (hlt : t at_ = 107) {s1 s2 s3 : Nat} (z1 : znum t len (at_ + 1) = some (a, s1)) (c1 : s1 < len) (c2 : t s1 = 44) (z2 : znum t len (s1 + 1) = some (b, s2)) (d1 : s2 < len) (d2 : t s2 = 44) (z3 : znum t len (s2 + 1) = some (c, s3)) : zev xs L 107 0 [.ref 104, .null, .null, .null, .null] [] (C ++ zM len at_ kep don see fit tx td ki kd pe sk wo sl sa wy be po mh go) = zev xs L 107 80 [.ref 104, .int (nI 107), .int (nI 3), .int (nI 1), .int (nI 3)] [] (C ++ zM len (s3) kep don see fit tx td ki kd pe sk wo sl sa wy be po mh (va_up (va_up (va_up go 0 (nI a)) 1 (nI b)) 2 (nI c))) := by
  have e0 := l_it0 (xs := xs) (L := L) (len := len) (at_ := at_) (kep := kep) (don := don) (see := see) (fit := fit) (tx := tx) (td := td) (ki := ki) (kd := kd) (pe := pe) (sk := sk) (wo := wo) (sl := sl) (sa := sa) (wy := wy) (be := be) (po := po) (mh := mh) (go := go) (C := C) hC hl htx hp hlt (n := 3) (Or.inl ⟨rfl, rfl⟩)
  have e1 := l_itS (xs := xs) (L := L) (len := len) (kep := kep) (don := don) (see := see) (fit := fit) (tx := tx) (td := td) (ki := ki) (kd := kd) (pe := pe) (sk := sk) (wo := wo) (sl := sl) (sa := sa) (wy := wy) (be := be) (po := po) (mh := mh) (go := go) (at_ := at_ + 1) (C := C) (t := t) hC hl ht htx (v1 := .int (nI 107)) (n := 3) (k := 0) (a := a) (q := s1) (s := at_ + 1) (by omega) (by omega) (Or.inl ⟨rfl, rfl⟩) (by omega) z1
  have e2 := l_itS (xs := xs) (L := L) (len := len) (kep := kep) (don := don) (see := see) (fit := fit) (tx := tx) (td := td) (ki := ki) (kd := kd) (pe := pe) (sk := sk) (wo := wo) (sl := sl) (sa := sa) (wy := wy) (be := be) (po := po) (mh := mh) (at_ := s1) (go := va_up go 0 (nI a)) (C := C) (t := t) hC hl ht htx (v1 := .int (nI 107)) (n := 3) (k := 0 + 1) (a := b) (q := s2) (s := s1 + 1) (by omega) (by omega) (Or.inr ⟨by omega, c1, c2, rfl⟩) (by omega) z2
  have e3 := l_itS (xs := xs) (L := L) (len := len) (kep := kep) (don := don) (see := see) (fit := fit) (tx := tx) (td := td) (ki := ki) (kd := kd) (pe := pe) (sk := sk) (wo := wo) (sl := sl) (sa := sa) (wy := wy) (be := be) (po := po) (mh := mh) (at_ := s2) (go := va_up (va_up go 0 (nI a)) (0 + 1) (nI b)) (C := C) (t := t) hC hl ht htx (v1 := .int (nI 107)) (n := 3) (k := 0 + 1 + 1) (a := c) (q := s3) (s := s2 + 1) (by omega) (by omega) (Or.inr ⟨by omega, d1, d2, rfl⟩) (by omega) z3
  exact e0.trans (e1.trans (e2.trans e3))
theorem mi_k_ok (hC : C.length = 104) (hl : len ≤ 300) (ht : ∀ j, t j < 256) (htx : ∀ j, j < len → tx j = zsx (t j)) (hp : at_ < len) (hlt : t at_ = 107) (hk : ki 1 < 5) (hpe : pe 1 = 0) (hz : zokK t len at_ a b c q) : zev xs L 107 0 [.ref 104, .null, .null, .null, .null] [] (C ++ zM len at_ kep don see fit tx td ki kd pe sk wo sl sa wy be po mh go) = some (some (.int (nI 1)), C ++ zM len (q) kep don see fit tx td (va_up ki 1 (ki 1 + 1)) (va_up (va_up (va_up kd (15 + 3 * ki 1) a) (15 + 3 * ki 1 + 1) b) (15 + 3 * ki 1 + 2) c) pe sk wo sl sa wy be po mh (va_up (va_up (va_up go 0 (nI a)) 1 (nI b)) 2 (nI c))) := by
  obtain ⟨q1, q2, y1, y2, y3⟩ := hz
  obtain ⟨s1, z1, c1, c2, c3, c4, rfl⟩ := znb2_inv y1
  obtain ⟨s2, z2, d1, d2, d3, d4, rfl⟩ := znb2_inv y2
  obtain ⟨s3, z3, f1, f2, f3, f4, rfl⟩ := znb2_inv y3
  have g0 : va_up (va_up (va_up go 0 (nI a)) 1 (nI b)) 2 (nI c) 0 = nI a := by rw [va_up_ne _ _ (by omega), va_up_ne _ _ (by omega), va_up_self]
  have g1 : va_up (va_up (va_up go 0 (nI a)) 1 (nI b)) 2 (nI c) 1 = nI b := by rw [va_up_ne _ _ (by omega), va_up_self]
  have hG := e_good_k (xs := xs) (L := L) (len := len) (kep := kep) (don := don) (see := see) (fit := fit) (tx := tx) (td := td) (ki := ki) (kd := kd) (pe := pe) (sk := sk) (wo := wo) (sl := sl) (sa := sa) (wy := wy) (be := be) (po := po) (mh := mh) (at_ := s3 + 1) (go := va_up (va_up (va_up go 0 (nI a)) 1 (nI b)) 2 (nI c)) (C := C) hC (a := a) (b := b) (c := c) g0 g1 (va_up_self _ _ _) (by omega) (by omega) (by omega) (by omega) (by omega)
  rw [if_pos ⟨c4, d4, ⟨f3, f4⟩, hk, hpe⟩] at hG
  have e := l_itE (xs := xs) (L := L) (len := len) (kep := kep) (don := don) (see := see) (fit := fit) (tx := tx) (td := td) (ki := ki) (kd := kd) (pe := pe) (sk := sk) (wo := wo) (sl := sl) (sa := sa) (wy := wy) (be := be) (po := po) (mh := mh) (at_ := s3) (go := va_up (va_up (va_up go 0 (nI a)) 1 (nI b)) 2 (nI c)) (C := C) (t := t) hC hl ht htx (l := 107) (n := 3) (by omega) (by omega) (by omega) f1 f2 hG (Or.inr rfl)
  exact (mi_k3 hC hl ht htx hp hlt z1 c1 c2 z2 d1 d2 z3).trans e
theorem mi_k_no (hC : C.length = 104) (hl : len ≤ 300) (ht : ∀ j, t j < 256) (htx : ∀ j, j < len → tx j = zsx (t j)) (hp : at_ < len) (hlt : t at_ = 107) (hk : ki 1 ≤ 5) (hpe : pe 1 ≤ 6) (hwo : ∀ j, j < 60 → wo j < 10) (hn : ¬ ((∃ a b c q, zokK t len at_ a b c q) ∧ ki 1 < 5 ∧ pe 1 = 0)) : zFailM xs L C td wo (fun p' td' wo' g => zM len (p') kep don see fit tx (td') ki kd pe sk (wo') sl sa wy be po mh (g)) (zM len at_ kep don see fit tx td ki kd pe sk wo sl sa wy be po mh go) := by
  have e0 := l_it0 (xs := xs) (L := L) (len := len) (at_ := at_) (kep := kep) (don := don) (see := see) (fit := fit) (tx := tx) (td := td) (ki := ki) (kd := kd) (pe := pe) (sk := sk) (wo := wo) (sl := sl) (sa := sa) (wy := wy) (be := be) (po := po) (mh := mh) (go := go) (C := C) hC hl htx hp hlt (n := 3) (Or.inl ⟨rfl, rfl⟩)
  cases z1 : znum t len (at_ + 1) with
  | none =>
    obtain ⟨p', g, e1⟩ := l_itX (xs := xs) (L := L) (len := len) (kep := kep) (don := don) (see := see) (fit := fit) (tx := tx) (td := td) (ki := ki) (kd := kd) (pe := pe) (sk := sk) (wo := wo) (sl := sl) (sa := sa) (wy := wy) (be := be) (po := po) (mh := mh) (go := go) (at_ := at_ + 1) (C := C) (t := t) hC hl ht htx (v1 := .int (nI 107)) (n := 3) (k := 0) (by omega) (by omega) (by omega) (Or.inl ⟨rfl, z1⟩)
    exact ⟨p', td, wo, g, rfl, rfl, fun _ _ => rfl, hwo, e0.trans e1⟩
  | some s =>
    obtain ⟨a, s1⟩ := s
    have v1 := znum_v ht (by omega) z1
    have e1 := l_itS (xs := xs) (L := L) (len := len) (kep := kep) (don := don) (see := see) (fit := fit) (tx := tx) (td := td) (ki := ki) (kd := kd) (pe := pe) (sk := sk) (wo := wo) (sl := sl) (sa := sa) (wy := wy) (be := be) (po := po) (mh := mh) (go := go) (at_ := at_ + 1) (C := C) (t := t) hC hl ht htx (v1 := .int (nI 107)) (n := 3) (k := 0) (a := a) (q := s1) (s := at_ + 1) (by omega) (by omega) (Or.inl ⟨rfl, rfl⟩) (by omega) z1
    by_cases c : s1 < len ∧ t s1 = 44
    · cases z2 : znum t len (s1 + 1) with
      | none =>
        obtain ⟨p', g, e2⟩ := l_itX (xs := xs) (L := L) (len := len) (kep := kep) (don := don) (see := see) (fit := fit) (tx := tx) (td := td) (ki := ki) (kd := kd) (pe := pe) (sk := sk) (wo := wo) (sl := sl) (sa := sa) (wy := wy) (be := be) (po := po) (mh := mh) (at_ := s1) (go := va_up go 0 (nI a)) (C := C) (t := t) hC hl ht htx (v1 := .int (nI 107)) (n := 3) (k := 0 + 1) (by omega) (by omega) (by omega) (Or.inr (Or.inr ⟨by omega, c.1, c.2, z2⟩))
        exact ⟨p', td, wo, g, rfl, rfl, fun _ _ => rfl, hwo, e0.trans (e1.trans e2)⟩
      | some s =>
        obtain ⟨b, s2⟩ := s
        have v2 := znum_v ht (by omega) z2
        have e2 := l_itS (xs := xs) (L := L) (len := len) (kep := kep) (don := don) (see := see) (fit := fit) (tx := tx) (td := td) (ki := ki) (kd := kd) (pe := pe) (sk := sk) (wo := wo) (sl := sl) (sa := sa) (wy := wy) (be := be) (po := po) (mh := mh) (at_ := s1) (go := va_up go 0 (nI a)) (C := C) (t := t) hC hl ht htx (v1 := .int (nI 107)) (n := 3) (k := 0 + 1) (a := b) (q := s2) (s := s1 + 1) (by omega) (by omega) (Or.inr ⟨by omega, c.1, c.2, rfl⟩) (by omega) z2
        by_cases d : s2 < len ∧ t s2 = 44
        · cases z3 : znum t len (s2 + 1) with
          | none =>
            obtain ⟨p', g, e3⟩ := l_itX (xs := xs) (L := L) (len := len) (kep := kep) (don := don) (see := see) (fit := fit) (tx := tx) (td := td) (ki := ki) (kd := kd) (pe := pe) (sk := sk) (wo := wo) (sl := sl) (sa := sa) (wy := wy) (be := be) (po := po) (mh := mh) (at_ := s2) (go := va_up (va_up go 0 (nI a)) (0 + 1) (nI b)) (C := C) (t := t) hC hl ht htx (v1 := .int (nI 107)) (n := 3) (k := 0 + 1 + 1) (by omega) (by omega) (by omega) (Or.inr (Or.inr ⟨by omega, d.1, d.2, z3⟩))
            exact ⟨p', td, wo, g, rfl, rfl, fun _ _ => rfl, hwo, e0.trans (e1.trans (e2.trans e3))⟩
          | some s =>
            obtain ⟨cc, s3⟩ := s
            have v3 := znum_v ht (by omega) z3
            have e3 := mi_k3 (xs := xs) (L := L) (len := len) (at_ := at_) (kep := kep) (don := don) (see := see) (fit := fit) (tx := tx) (td := td) (ki := ki) (kd := kd) (pe := pe) (sk := sk) (wo := wo) (sl := sl) (sa := sa) (wy := wy) (be := be) (po := po) (mh := mh) (go := go) (C := C) hC hl ht htx hp hlt z1 c.1 c.2 z2 d.1 d.2 z3
            by_cases f : s3 < len ∧ t s3 = 59
            · have g0 : va_up (va_up (va_up go 0 (nI a)) 1 (nI b)) 2 (nI cc) 0 = nI a := by rw [va_up_ne _ _ (by omega), va_up_ne _ _ (by omega), va_up_self]
              have g1 : va_up (va_up (va_up go 0 (nI a)) 1 (nI b)) 2 (nI cc) 1 = nI b := by rw [va_up_ne _ _ (by omega), va_up_self]
              have hG := e_good_k (xs := xs) (L := L) (len := len) (kep := kep) (don := don) (see := see) (fit := fit) (tx := tx) (td := td) (ki := ki) (kd := kd) (pe := pe) (sk := sk) (wo := wo) (sl := sl) (sa := sa) (wy := wy) (be := be) (po := po) (mh := mh) (at_ := s3 + 1) (go := va_up (va_up (va_up go 0 (nI a)) 1 (nI b)) 2 (nI cc)) (C := C) hC (a := a) (b := b) (c := cc) g0 g1 (va_up_self _ _ _) v1.1 v2.1 v3.1 hk hpe
              rw [if_neg (fun q => hn ⟨⟨a, b, cc, s3 + 1, s1 + 1, s2 + 1, znb2_mk z1 c.1 c.2 (Nat.zero_le _) q.1, znb2_mk z2 d.1 d.2 (Nat.zero_le _) q.2.1, znb2_mk z3 f.1 f.2 q.2.2.1.1 q.2.2.1.2⟩, q.2.2.2⟩)] at hG
              have e := l_itE (xs := xs) (L := L) (len := len) (kep := kep) (don := don) (see := see) (fit := fit) (tx := tx) (td := td) (ki := ki) (kd := kd) (pe := pe) (sk := sk) (wo := wo) (sl := sl) (sa := sa) (wy := wy) (be := be) (po := po) (mh := mh) (at_ := s3) (go := va_up (va_up (va_up go 0 (nI a)) 1 (nI b)) 2 (nI cc)) (C := C) (t := t) hC hl ht htx (l := 107) (n := 3) (by omega) (by omega) (by omega) f.1 f.2 hG (Or.inl rfl)
              exact ⟨s3 + 1, td, wo, _, rfl, rfl, fun _ _ => rfl, hwo, e3.trans e⟩
            · have e := l_itE0 (xs := xs) (L := L) (len := len) (kep := kep) (don := don) (see := see) (fit := fit) (tx := tx) (td := td) (ki := ki) (kd := kd) (pe := pe) (sk := sk) (wo := wo) (sl := sl) (sa := sa) (wy := wy) (be := be) (po := po) (mh := mh) (at_ := s3) (go := va_up (va_up (va_up go 0 (nI a)) 1 (nI b)) 2 (nI cc)) (C := C) (t := t) hC hl v3.2 ht htx (v1 := .int (nI 107)) (n := 3) (by omega) f
              exact ⟨s3 + 1, td, wo, _, rfl, rfl, fun _ _ => rfl, hwo, e3.trans e⟩
        · obtain ⟨p', g, e3⟩ := l_itX (xs := xs) (L := L) (len := len) (kep := kep) (don := don) (see := see) (fit := fit) (tx := tx) (td := td) (ki := ki) (kd := kd) (pe := pe) (sk := sk) (wo := wo) (sl := sl) (sa := sa) (wy := wy) (be := be) (po := po) (mh := mh) (at_ := s2) (go := va_up (va_up go 0 (nI a)) (0 + 1) (nI b)) (C := C) (t := t) hC hl ht htx (v1 := .int (nI 107)) (n := 3) (k := 0 + 1 + 1) (by omega) (by omega) (by omega) (Or.inr (Or.inl ⟨by omega, d⟩))
          exact ⟨p', td, wo, g, rfl, rfl, fun _ _ => rfl, hwo, e0.trans (e1.trans (e2.trans e3))⟩
    · obtain ⟨p', g, e2⟩ := l_itX (xs := xs) (L := L) (len := len) (kep := kep) (don := don) (see := see) (fit := fit) (tx := tx) (td := td) (ki := ki) (kd := kd) (pe := pe) (sk := sk) (wo := wo) (sl := sl) (sa := sa) (wy := wy) (be := be) (po := po) (mh := mh) (at_ := s1) (go := va_up go 0 (nI a)) (C := C) (t := t) hC hl ht htx (v1 := .int (nI 107)) (n := 3) (k := 0 + 1) (by omega) (by omega) (by omega) (Or.inr (Or.inl ⟨by omega, c⟩))
      exact ⟨p', td, wo, g, rfl, rfl, fun _ _ => rfl, hwo, e0.trans (e1.trans e2)⟩
end
