/-! ===== the heap: the class's cells (places 0 to 103), the reference's (104 to 118) ===== -/
def zrn (n : Nat) (f : Nat → Nat) : ZC := (20, (List.range n).map (fun j => .int (nI (f j))))
def zri (t n : Nat) (f : Nat → Int32) : ZC := (t, (List.range n).map (fun j => .int (f j)))
def zra (n : Nat) (f : Nat → Nat) : ZC := (22, (List.range n).map (fun j => .ref (f j)))
def zda (d : Nat) : Nat := if d < 2 then 15 + 6 * d else if d < 10 then 17 + 6 * d else 19 + 6 * d
def zta (t : Nat) : Nat := 3 + 6 * t
section
variable {h h' : ZH} {a n i k : Nat}
theorem zget_of {ci j : Nat} {fs : List Value} {v : Value} (ha : h[a]? = some (ci, fs)) (hj : fs[j]? = some v) : zget h a ci j = some v := by simp only [zget, ha, if_true, hj]
theorem zput_of {ci j : Nat} {fs fs' : List Value} {v : Value} (ha : h[a]? = some (ci, fs)) (hj : j < fs.length) (hf : fs.set j v = fs') (hs : h.set a (ci, fs') = h') : zput h a ci j v = some h' := by
  subst hf; subst hs; simp only [zput, ha, hj, true_and, if_true, and_self]
theorem zrn_at {n i : Nat} {g : Nat → Value} (hi : i < n) : ((List.range n).map g)[i]? = some (g i) := by rw [List.getElem?_map, List.getElem?_range hi]; rfl
theorem zrn_set {α : Type} {n i : Nat} {f : Nat → α} {g : α → Value} {x : α} (hi : i < n) : ((List.range n).map (fun j => g (f j))).set i (g x) = (List.range n).map (fun j => g (va_up f i x j)) := by
  apply List.ext_getElem?
  intro j
  rw [List.getElem?_set]
  by_cases hj : j < n
  · rw [zrn_at (g := fun j => g (va_up f i x j)) hj]
    by_cases hij : i = j
    · subst hij; rw [if_pos rfl, if_pos (by simpa using hi)]; simp [va_up]
    · rw [if_neg hij, zrn_at (g := fun j => g (f j)) hj]; simp only [va_up]; rw [if_neg (fun q => hij q.symm)]
  · rw [List.getElem?_eq_none (l := (List.range n).map (fun j => g (va_up f i x j))) (by simpa using Nat.not_lt.mp hj)]
    rw [if_neg (by omega), List.getElem?_eq_none (by simpa using Nat.not_lt.mp hj)]
theorem zald_v {t : Nat} {vs : List Value} {x : Int32} (ha : h[a]? = some (t, vs)) (hi : i < 2 ^ 31) (hv : vs[i]? = some (.int x)) : zaldI h t a (nI i) = some x := by
  have e : zald h t a (nI i) = some (.int x) := by
    simp only [zald, ha]
    rw [if_pos ⟨trivial, nI_pos hi⟩, nI_clamp hi, hv]
  simp only [zaldI, e]
theorem zald_n {f : Nat → Nat} (ha : h[a]? = some (zrn n f)) (hi : i < n) (hn : n ≤ 1000) : zaldI h 20 a (nI i) = some (nI (f i)) := zald_v ha (by omega) (zrn_at (g := fun j => .int (nI (f j))) hi)
theorem zald_i {t : Nat} {f : Nat → Int32} (ha : h[a]? = some (zri t n f)) (hi : i < n) (hn : n ≤ 1000) : zaldI h t a (nI i) = some (f i) := zald_v ha (by omega) (zrn_at (g := fun j => .int (f j)) hi)
theorem zald_a {f : Nat → Nat} (ha : h[a]? = some (zra n f)) (hi : i < n) (hn : n ≤ 1000) : zaldA h a (nI i) = some (f i) := by
  have e : zald h 22 a (nI i) = some (.ref (f i)) := by
    simp only [zald, ha]
    rw [if_pos ⟨by trivial, nI_pos (by omega)⟩, nI_clamp (by omega)]
    exact zrn_at (g := fun j => .ref (f j)) hi
  simp only [zaldA, e]
theorem zast_v {t : Nat} {vs vs' : List Value} {v : Value} (ha : h[a]? = some (t, vs)) (hi : i < vs.length) (hn : i < 2 ^ 31) (hf : vs.set i v = vs') (hs : h.set a (t, vs') = h') : zast h t a (nI i) v = some h' := by
  subst hf; subst hs
  simp only [zast, ha]
  rw [if_pos ⟨trivial, nI_pos hn, by rw [nI_clamp hn]; exact hi⟩, nI_clamp hn]
theorem zast_n {f : Nat → Nat} {x : Nat} (ha : h[a]? = some (zrn n f)) (hi : i < n) (hn : n ≤ 1000) (hs : h.set a (zrn n (va_up f i x)) = h') : zast h 20 a (nI i) (.int (nI x)) = some h' := zast_v ha (by simpa [zrn] using hi) (by omega) (zrn_set (g := fun q => .int (nI q)) hi) hs
theorem zast_i {t : Nat} {f : Nat → Int32} {x : Int32} (ha : h[a]? = some (zri t n f)) (hi : i < n) (hn : n ≤ 1000) (hs : h.set a (zri t n (va_up f i x)) = h') : zast h t a (nI i) (.int x) = some h' := zast_v ha (by simpa [zri] using hi) (by omega) (zrn_set (g := fun q => .int q) hi) hs
theorem zast_a {f : Nat → Nat} {x : Nat} (ha : h[a]? = some (zra n f)) (hi : i < n) (hn : n ≤ 1000) (hs : h.set a (zra n (va_up f i x)) = h') : zast h 22 a (nI i) (.ref x) = some h' := zast_v ha (by simpa [zra] using hi) (by omega) (zrn_set (g := fun q => .ref q) hi) hs
theorem zaln_n {f : Nat → Nat} (ha : h[a]? = some (zrn n f)) : zaln h a = some n := by simp [zaln, ha, zrn]
theorem zaln_a {f : Nat → Nat} (ha : h[a]? = some (zra n f)) : zaln h a = some n := by simp [zaln, ha, zra]
theorem zcpy_n {f g : Nat → Nat} {b : Nat} (hb : h[b]? = some (zrn n g)) (ha : h[a]? = some (zrn n f)) (hs : h.set a (zrn n g) = h') : zcpy h b a n = some h' := by
  subst hs
  simp only [zcpy, ha, hb, zrn, List.length_map, List.length_range, Nat.le_refl, and_self, if_true]
  rw [List.take_of_length_le (by simp), List.drop_of_length_le (by simp), List.append_nil]
theorem ztag_of {t : Nat} {vs : List Value} (ha : h[a]? = some (t, vs)) : ztag h a = some t := by simp [ztag, ha]
end
def zM (len : Nat) (at_ : Nat) (kep : Nat) (don : Nat) (see : Nat) (fit : Int32) (tx : Nat → Int32) (td : Nat → Nat) (ki : Nat → Nat) (kd : Nat → Nat) (pe : Nat → Nat) (sk : Nat → Nat) (wo : Nat → Nat) (sl : Nat → Nat) (sa : Nat → Nat) (wy : Nat → Nat) (be : Nat → Nat) (po : Nat → Nat) (mh : Nat → Nat) (go : Nat → Int32) : ZH := [(8, [.int (nI len), .ref 105, .int (nI at_), .ref 106, .ref 107, .ref 108, .ref 109, .ref 110, .ref 111, .ref 112, .int (nI kep), .int (nI don), .int (nI see), .ref 113, .ref 114, .ref 115, .ref 116, .ref 117, .int fit, .ref 118]), zri 21 300 tx, zrn 4 td, zrn 2 ki, zrn 30 kd, zrn 2 pe, zrn 12 sk, zrn 60 wo, zrn 732 sl, zrn 30 sa, zrn 6 wy, zrn 6 be, zrn 6 po, zrn 6 mh, zri 20 3 go]
section
variable {C : ZH} {len at_ kep don see : Nat} {fit : Int32} {tx : Nat → Int32} {td ki kd pe sk wo sl sa wy be po mh : Nat → Nat} {go : Nat → Int32} {i x : Nat} {z : Int32}
theorem zCM {C M : ZH} {k j : Nat} (hC : C.length = 104) (hj : j = 104 + k) : (C ++ M)[j]? = M[k]? := by rw [List.getElem?_append_right (by omega)]; congr 1; omega
theorem zCS {C M : ZH} {k j : Nat} {c : ZC} (hC : C.length = 104) (hj : j = 104 + k) : (C ++ M).set j c = C ++ M.set k c := by rw [List.set_append_right _ _ (by omega)]; congr 2; omega
theorem mg_0 (hC : C.length = 104) : zget (C ++ zM len at_ kep don see fit tx td ki kd pe sk wo sl sa wy be po mh go) 104 8 0 = some (.int (nI len)) := zget_of (zCM (k := 0) hC rfl) rfl
theorem mg_1 (hC : C.length = 104) : zget (C ++ zM len at_ kep don see fit tx td ki kd pe sk wo sl sa wy be po mh go) 104 8 1 = some (.ref 105) := zget_of (zCM (k := 0) hC rfl) rfl
theorem mg_2 (hC : C.length = 104) : zget (C ++ zM len at_ kep don see fit tx td ki kd pe sk wo sl sa wy be po mh go) 104 8 2 = some (.int (nI at_)) := zget_of (zCM (k := 0) hC rfl) rfl
theorem mg_3 (hC : C.length = 104) : zget (C ++ zM len at_ kep don see fit tx td ki kd pe sk wo sl sa wy be po mh go) 104 8 3 = some (.ref 106) := zget_of (zCM (k := 0) hC rfl) rfl
theorem mg_4 (hC : C.length = 104) : zget (C ++ zM len at_ kep don see fit tx td ki kd pe sk wo sl sa wy be po mh go) 104 8 4 = some (.ref 107) := zget_of (zCM (k := 0) hC rfl) rfl
theorem mg_5 (hC : C.length = 104) : zget (C ++ zM len at_ kep don see fit tx td ki kd pe sk wo sl sa wy be po mh go) 104 8 5 = some (.ref 108) := zget_of (zCM (k := 0) hC rfl) rfl
theorem mg_6 (hC : C.length = 104) : zget (C ++ zM len at_ kep don see fit tx td ki kd pe sk wo sl sa wy be po mh go) 104 8 6 = some (.ref 109) := zget_of (zCM (k := 0) hC rfl) rfl
theorem mg_7 (hC : C.length = 104) : zget (C ++ zM len at_ kep don see fit tx td ki kd pe sk wo sl sa wy be po mh go) 104 8 7 = some (.ref 110) := zget_of (zCM (k := 0) hC rfl) rfl
theorem mg_8 (hC : C.length = 104) : zget (C ++ zM len at_ kep don see fit tx td ki kd pe sk wo sl sa wy be po mh go) 104 8 8 = some (.ref 111) := zget_of (zCM (k := 0) hC rfl) rfl
theorem mg_9 (hC : C.length = 104) : zget (C ++ zM len at_ kep don see fit tx td ki kd pe sk wo sl sa wy be po mh go) 104 8 9 = some (.ref 112) := zget_of (zCM (k := 0) hC rfl) rfl
theorem mg_10 (hC : C.length = 104) : zget (C ++ zM len at_ kep don see fit tx td ki kd pe sk wo sl sa wy be po mh go) 104 8 10 = some (.int (nI kep)) := zget_of (zCM (k := 0) hC rfl) rfl
theorem mg_11 (hC : C.length = 104) : zget (C ++ zM len at_ kep don see fit tx td ki kd pe sk wo sl sa wy be po mh go) 104 8 11 = some (.int (nI don)) := zget_of (zCM (k := 0) hC rfl) rfl
theorem mg_12 (hC : C.length = 104) : zget (C ++ zM len at_ kep don see fit tx td ki kd pe sk wo sl sa wy be po mh go) 104 8 12 = some (.int (nI see)) := zget_of (zCM (k := 0) hC rfl) rfl
theorem mg_13 (hC : C.length = 104) : zget (C ++ zM len at_ kep don see fit tx td ki kd pe sk wo sl sa wy be po mh go) 104 8 13 = some (.ref 113) := zget_of (zCM (k := 0) hC rfl) rfl
theorem mg_14 (hC : C.length = 104) : zget (C ++ zM len at_ kep don see fit tx td ki kd pe sk wo sl sa wy be po mh go) 104 8 14 = some (.ref 114) := zget_of (zCM (k := 0) hC rfl) rfl
theorem mg_15 (hC : C.length = 104) : zget (C ++ zM len at_ kep don see fit tx td ki kd pe sk wo sl sa wy be po mh go) 104 8 15 = some (.ref 115) := zget_of (zCM (k := 0) hC rfl) rfl
theorem mg_16 (hC : C.length = 104) : zget (C ++ zM len at_ kep don see fit tx td ki kd pe sk wo sl sa wy be po mh go) 104 8 16 = some (.ref 116) := zget_of (zCM (k := 0) hC rfl) rfl
theorem mg_17 (hC : C.length = 104) : zget (C ++ zM len at_ kep don see fit tx td ki kd pe sk wo sl sa wy be po mh go) 104 8 17 = some (.ref 117) := zget_of (zCM (k := 0) hC rfl) rfl
theorem mg_18 (hC : C.length = 104) : zget (C ++ zM len at_ kep don see fit tx td ki kd pe sk wo sl sa wy be po mh go) 104 8 18 = some (.int fit) := zget_of (zCM (k := 0) hC rfl) rfl
theorem mg_19 (hC : C.length = 104) : zget (C ++ zM len at_ kep don see fit tx td ki kd pe sk wo sl sa wy be po mh go) 104 8 19 = some (.ref 118) := zget_of (zCM (k := 0) hC rfl) rfl
theorem mp_0 (hC : C.length = 104) : zput (C ++ zM len at_ kep don see fit tx td ki kd pe sk wo sl sa wy be po mh go) 104 8 0 (.int (nI x)) = some (C ++ zM (x) at_ kep don see fit tx td ki kd pe sk wo sl sa wy be po mh go) := zput_of (zCM (k := 0) hC rfl) (Nat.le_of_ble_eq_true rfl) rfl (zCS (k := 0) hC rfl)
theorem mp_2 (hC : C.length = 104) : zput (C ++ zM len at_ kep don see fit tx td ki kd pe sk wo sl sa wy be po mh go) 104 8 2 (.int (nI x)) = some (C ++ zM len (x) kep don see fit tx td ki kd pe sk wo sl sa wy be po mh go) := zput_of (zCM (k := 0) hC rfl) (Nat.le_of_ble_eq_true rfl) rfl (zCS (k := 0) hC rfl)
theorem mp_10 (hC : C.length = 104) : zput (C ++ zM len at_ kep don see fit tx td ki kd pe sk wo sl sa wy be po mh go) 104 8 10 (.int (nI x)) = some (C ++ zM len at_ (x) don see fit tx td ki kd pe sk wo sl sa wy be po mh go) := zput_of (zCM (k := 0) hC rfl) (Nat.le_of_ble_eq_true rfl) rfl (zCS (k := 0) hC rfl)
theorem mp_11 (hC : C.length = 104) : zput (C ++ zM len at_ kep don see fit tx td ki kd pe sk wo sl sa wy be po mh go) 104 8 11 (.int (nI x)) = some (C ++ zM len at_ kep (x) see fit tx td ki kd pe sk wo sl sa wy be po mh go) := zput_of (zCM (k := 0) hC rfl) (Nat.le_of_ble_eq_true rfl) rfl (zCS (k := 0) hC rfl)
theorem mp_12 (hC : C.length = 104) : zput (C ++ zM len at_ kep don see fit tx td ki kd pe sk wo sl sa wy be po mh go) 104 8 12 (.int (nI x)) = some (C ++ zM len at_ kep don (x) fit tx td ki kd pe sk wo sl sa wy be po mh go) := zput_of (zCM (k := 0) hC rfl) (Nat.le_of_ble_eq_true rfl) rfl (zCS (k := 0) hC rfl)
theorem mp_18 (hC : C.length = 104) : zput (C ++ zM len at_ kep don see fit tx td ki kd pe sk wo sl sa wy be po mh go) 104 8 18 (.int z) = some (C ++ zM len at_ kep don see (z) tx td ki kd pe sk wo sl sa wy be po mh go) := zput_of (zCM (k := 0) hC rfl) (Nat.le_of_ble_eq_true rfl) rfl (zCS (k := 0) hC rfl)
theorem mt_0 (hC : C.length = 104) : ztag (C ++ zM len at_ kep don see fit tx td ki kd pe sk wo sl sa wy be po mh go) 104 = some 8 := ztag_of (zCM (k := 0) hC rfl)
theorem ma_tx (hC : C.length = 104) (hi : i < 300) : zaldI (C ++ zM len at_ kep don see fit tx td ki kd pe sk wo sl sa wy be po mh go) 21 105 (nI i) = some (tx i) := zald_i (zCM (k := 1) hC rfl) hi (by decide)
theorem ms_tx (hC : C.length = 104) (hi : i < 300) : zast (C ++ zM len at_ kep don see fit tx td ki kd pe sk wo sl sa wy be po mh go) 21 105 (nI i) (.int z) = some (C ++ zM len at_ kep don see fit (va_up tx i z) td ki kd pe sk wo sl sa wy be po mh go) := zast_i (zCM (k := 1) hC rfl) hi (by decide) (zCS (k := 1) hC rfl)
theorem ma_td (hC : C.length = 104) (hi : i < 4) : zaldI (C ++ zM len at_ kep don see fit tx td ki kd pe sk wo sl sa wy be po mh go) 20 106 (nI i) = some (nI (td i)) := zald_n (zCM (k := 2) hC rfl) hi (by decide)
theorem ms_td (hC : C.length = 104) (hi : i < 4) : zast (C ++ zM len at_ kep don see fit tx td ki kd pe sk wo sl sa wy be po mh go) 20 106 (nI i) (.int (nI x)) = some (C ++ zM len at_ kep don see fit tx (va_up td i x) ki kd pe sk wo sl sa wy be po mh go) := zast_n (zCM (k := 2) hC rfl) hi (by decide) (zCS (k := 2) hC rfl)
theorem ma_ki (hC : C.length = 104) (hi : i < 2) : zaldI (C ++ zM len at_ kep don see fit tx td ki kd pe sk wo sl sa wy be po mh go) 20 107 (nI i) = some (nI (ki i)) := zald_n (zCM (k := 3) hC rfl) hi (by decide)
theorem ms_ki (hC : C.length = 104) (hi : i < 2) : zast (C ++ zM len at_ kep don see fit tx td ki kd pe sk wo sl sa wy be po mh go) 20 107 (nI i) (.int (nI x)) = some (C ++ zM len at_ kep don see fit tx td (va_up ki i x) kd pe sk wo sl sa wy be po mh go) := zast_n (zCM (k := 3) hC rfl) hi (by decide) (zCS (k := 3) hC rfl)
theorem ma_kd (hC : C.length = 104) (hi : i < 30) : zaldI (C ++ zM len at_ kep don see fit tx td ki kd pe sk wo sl sa wy be po mh go) 20 108 (nI i) = some (nI (kd i)) := zald_n (zCM (k := 4) hC rfl) hi (by decide)
theorem ms_kd (hC : C.length = 104) (hi : i < 30) : zast (C ++ zM len at_ kep don see fit tx td ki kd pe sk wo sl sa wy be po mh go) 20 108 (nI i) (.int (nI x)) = some (C ++ zM len at_ kep don see fit tx td ki (va_up kd i x) pe sk wo sl sa wy be po mh go) := zast_n (zCM (k := 4) hC rfl) hi (by decide) (zCS (k := 4) hC rfl)
theorem ma_pe (hC : C.length = 104) (hi : i < 2) : zaldI (C ++ zM len at_ kep don see fit tx td ki kd pe sk wo sl sa wy be po mh go) 20 109 (nI i) = some (nI (pe i)) := zald_n (zCM (k := 5) hC rfl) hi (by decide)
theorem ms_pe (hC : C.length = 104) (hi : i < 2) : zast (C ++ zM len at_ kep don see fit tx td ki kd pe sk wo sl sa wy be po mh go) 20 109 (nI i) (.int (nI x)) = some (C ++ zM len at_ kep don see fit tx td ki kd (va_up pe i x) sk wo sl sa wy be po mh go) := zast_n (zCM (k := 5) hC rfl) hi (by decide) (zCS (k := 5) hC rfl)
theorem ma_sk (hC : C.length = 104) (hi : i < 12) : zaldI (C ++ zM len at_ kep don see fit tx td ki kd pe sk wo sl sa wy be po mh go) 20 110 (nI i) = some (nI (sk i)) := zald_n (zCM (k := 6) hC rfl) hi (by decide)
theorem ms_sk (hC : C.length = 104) (hi : i < 12) : zast (C ++ zM len at_ kep don see fit tx td ki kd pe sk wo sl sa wy be po mh go) 20 110 (nI i) (.int (nI x)) = some (C ++ zM len at_ kep don see fit tx td ki kd pe (va_up sk i x) wo sl sa wy be po mh go) := zast_n (zCM (k := 6) hC rfl) hi (by decide) (zCS (k := 6) hC rfl)
theorem ma_wo (hC : C.length = 104) (hi : i < 60) : zaldI (C ++ zM len at_ kep don see fit tx td ki kd pe sk wo sl sa wy be po mh go) 20 111 (nI i) = some (nI (wo i)) := zald_n (zCM (k := 7) hC rfl) hi (by decide)
theorem ms_wo (hC : C.length = 104) (hi : i < 60) : zast (C ++ zM len at_ kep don see fit tx td ki kd pe sk wo sl sa wy be po mh go) 20 111 (nI i) (.int (nI x)) = some (C ++ zM len at_ kep don see fit tx td ki kd pe sk (va_up wo i x) sl sa wy be po mh go) := zast_n (zCM (k := 7) hC rfl) hi (by decide) (zCS (k := 7) hC rfl)
theorem ma_sl (hC : C.length = 104) (hi : i < 732) : zaldI (C ++ zM len at_ kep don see fit tx td ki kd pe sk wo sl sa wy be po mh go) 20 112 (nI i) = some (nI (sl i)) := zald_n (zCM (k := 8) hC rfl) hi (by decide)
theorem ms_sl (hC : C.length = 104) (hi : i < 732) : zast (C ++ zM len at_ kep don see fit tx td ki kd pe sk wo sl sa wy be po mh go) 20 112 (nI i) (.int (nI x)) = some (C ++ zM len at_ kep don see fit tx td ki kd pe sk wo (va_up sl i x) sa wy be po mh go) := zast_n (zCM (k := 8) hC rfl) hi (by decide) (zCS (k := 8) hC rfl)
theorem ma_sa (hC : C.length = 104) (hi : i < 30) : zaldI (C ++ zM len at_ kep don see fit tx td ki kd pe sk wo sl sa wy be po mh go) 20 113 (nI i) = some (nI (sa i)) := zald_n (zCM (k := 9) hC rfl) hi (by decide)
theorem ms_sa (hC : C.length = 104) (hi : i < 30) : zast (C ++ zM len at_ kep don see fit tx td ki kd pe sk wo sl sa wy be po mh go) 20 113 (nI i) (.int (nI x)) = some (C ++ zM len at_ kep don see fit tx td ki kd pe sk wo sl (va_up sa i x) wy be po mh go) := zast_n (zCM (k := 9) hC rfl) hi (by decide) (zCS (k := 9) hC rfl)
theorem ma_wy (hC : C.length = 104) (hi : i < 6) : zaldI (C ++ zM len at_ kep don see fit tx td ki kd pe sk wo sl sa wy be po mh go) 20 114 (nI i) = some (nI (wy i)) := zald_n (zCM (k := 10) hC rfl) hi (by decide)
theorem ms_wy (hC : C.length = 104) (hi : i < 6) : zast (C ++ zM len at_ kep don see fit tx td ki kd pe sk wo sl sa wy be po mh go) 20 114 (nI i) (.int (nI x)) = some (C ++ zM len at_ kep don see fit tx td ki kd pe sk wo sl sa (va_up wy i x) be po mh go) := zast_n (zCM (k := 10) hC rfl) hi (by decide) (zCS (k := 10) hC rfl)
theorem ma_be (hC : C.length = 104) (hi : i < 6) : zaldI (C ++ zM len at_ kep don see fit tx td ki kd pe sk wo sl sa wy be po mh go) 20 115 (nI i) = some (nI (be i)) := zald_n (zCM (k := 11) hC rfl) hi (by decide)
theorem ms_be (hC : C.length = 104) (hi : i < 6) : zast (C ++ zM len at_ kep don see fit tx td ki kd pe sk wo sl sa wy be po mh go) 20 115 (nI i) (.int (nI x)) = some (C ++ zM len at_ kep don see fit tx td ki kd pe sk wo sl sa wy (va_up be i x) po mh go) := zast_n (zCM (k := 11) hC rfl) hi (by decide) (zCS (k := 11) hC rfl)
theorem ma_po (hC : C.length = 104) (hi : i < 6) : zaldI (C ++ zM len at_ kep don see fit tx td ki kd pe sk wo sl sa wy be po mh go) 20 116 (nI i) = some (nI (po i)) := zald_n (zCM (k := 12) hC rfl) hi (by decide)
theorem ms_po (hC : C.length = 104) (hi : i < 6) : zast (C ++ zM len at_ kep don see fit tx td ki kd pe sk wo sl sa wy be po mh go) 20 116 (nI i) (.int (nI x)) = some (C ++ zM len at_ kep don see fit tx td ki kd pe sk wo sl sa wy be (va_up po i x) mh go) := zast_n (zCM (k := 12) hC rfl) hi (by decide) (zCS (k := 12) hC rfl)
theorem ma_mh (hC : C.length = 104) (hi : i < 6) : zaldI (C ++ zM len at_ kep don see fit tx td ki kd pe sk wo sl sa wy be po mh go) 20 117 (nI i) = some (nI (mh i)) := zald_n (zCM (k := 13) hC rfl) hi (by decide)
theorem ms_mh (hC : C.length = 104) (hi : i < 6) : zast (C ++ zM len at_ kep don see fit tx td ki kd pe sk wo sl sa wy be po mh go) 20 117 (nI i) (.int (nI x)) = some (C ++ zM len at_ kep don see fit tx td ki kd pe sk wo sl sa wy be po (va_up mh i x) go) := zast_n (zCM (k := 13) hC rfl) hi (by decide) (zCS (k := 13) hC rfl)
theorem ma_go (hC : C.length = 104) (hi : i < 3) : zaldI (C ++ zM len at_ kep don see fit tx td ki kd pe sk wo sl sa wy be po mh go) 20 118 (nI i) = some (go i) := zald_i (zCM (k := 14) hC rfl) hi (by decide)
theorem ms_go (hC : C.length = 104) (hi : i < 3) : zast (C ++ zM len at_ kep don see fit tx td ki kd pe sk wo sl sa wy be po mh go) 20 118 (nI i) (.int z) = some (C ++ zM len at_ kep don see fit tx td ki kd pe sk wo sl sa wy be po mh (va_up go i z)) := zast_i (zCM (k := 14) hC rfl) hi (by decide) (zCS (k := 14) hC rfl)
end
def zK (tl : Nat) (tp : Nat) (tb : Nat → Nat) (cu : Nat) (tk : Nat → Nat) (tq : Nat → Nat) (tm : Nat → Nat) (tw : Nat → Int32) (tc : Nat → Nat) (tr : Nat → Nat → Nat) (tg : Nat → Nat → Nat) (tt : Nat → Nat → Nat) (ts : Nat → Nat → Nat) (tv : Nat → Nat → Nat) (dn : Nat → Nat) (dh : Nat → Nat) (dw : Nat → Nat → Nat) (dk : Nat → Nat → Nat) (de : Nat → Nat → Nat) (dx : Nat → Nat → Nat) (dt : Nat → Nat → Nat) (ps : Nat) (pd : Nat → Nat) (ks : Nat) (kq : Nat → Nat) (ss : Nat) (sc : Nat → Nat) (sn : Nat → Nat) (wm : Nat → Nat) (wb : Nat → Nat) (wr : Nat → Nat) (wp : Nat) (wt : Nat) (aw : Nat → Nat) (ak : Nat → Nat) (av : Nat → Nat) (ap : Nat → Nat) (an : Nat → Nat) (aq : Nat) (al : Nat) : ZH := [(7, [.ref 1, .ref (zta cu), .ref (zta (1 - cu)), .ref (zda 0), .ref (zda 1), .ref 27, .ref 77, .ref 91, .ref 94, .ref 98]),
  (4, [.ref 2, .int (nI tl), .int (nI tp)]),
  zrn 300 tb,
  (5, [.int (nI (tk 0)), .int (nI (tq 0)), .int (nI (tm 0)), .int (tw 0), .int (nI (tc 0)), .ref (zta 0 + 1), .ref (zta 0 + 2), .ref (zta 0 + 3), .ref (zta 0 + 4), .ref (zta 0 + 5)]),
  zrn 5 (tr 0),
  zrn 5 (tg 0),
  zrn 5 (tt 0),
  zrn 6 (ts 0),
  zrn 30 (tv 0),
  (5, [.int (nI (tk 1)), .int (nI (tq 1)), .int (nI (tm 1)), .int (tw 1), .int (nI (tc 1)), .ref (zta 1 + 1), .ref (zta 1 + 2), .ref (zta 1 + 3), .ref (zta 1 + 4), .ref (zta 1 + 5)]),
  zrn 5 (tr 1),
  zrn 5 (tg 1),
  zrn 5 (tt 1),
  zrn 6 (ts 1),
  zrn 30 (tv 1),
  (1, [.int (nI (dn 0)), .int (nI (dh 0)), .ref (zda 0 + 1), .ref (zda 0 + 2), .ref (zda 0 + 3), .ref (zda 0 + 4), .ref (zda 0 + 5)]),
  zrn 6 (dw 0),
  zrn 6 (dk 0),
  zrn 6 (de 0),
  zrn 6 (dx 0),
  zrn 30 (dt 0),
  (1, [.int (nI (dn 1)), .int (nI (dh 1)), .ref (zda 1 + 1), .ref (zda 1 + 2), .ref (zda 1 + 3), .ref (zda 1 + 4), .ref (zda 1 + 5)]),
  zrn 6 (dw 1),
  zrn 6 (dk 1),
  zrn 6 (de 1),
  zrn 6 (dx 1),
  zrn 30 (dt 1),
  (2, [.ref 28, .int (nI ps)]),
  zra 8 (fun j => zda (pd j)),
  (1, [.int (nI (dn 2)), .int (nI (dh 2)), .ref (zda 2 + 1), .ref (zda 2 + 2), .ref (zda 2 + 3), .ref (zda 2 + 4), .ref (zda 2 + 5)]),
  zrn 6 (dw 2),
  zrn 6 (dk 2),
  zrn 6 (de 2),
  zrn 6 (dx 2),
  zrn 30 (dt 2),
  (1, [.int (nI (dn 3)), .int (nI (dh 3)), .ref (zda 3 + 1), .ref (zda 3 + 2), .ref (zda 3 + 3), .ref (zda 3 + 4), .ref (zda 3 + 5)]),
  zrn 6 (dw 3),
  zrn 6 (dk 3),
  zrn 6 (de 3),
  zrn 6 (dx 3),
  zrn 30 (dt 3),
  (1, [.int (nI (dn 4)), .int (nI (dh 4)), .ref (zda 4 + 1), .ref (zda 4 + 2), .ref (zda 4 + 3), .ref (zda 4 + 4), .ref (zda 4 + 5)]),
  zrn 6 (dw 4),
  zrn 6 (dk 4),
  zrn 6 (de 4),
  zrn 6 (dx 4),
  zrn 30 (dt 4),
  (1, [.int (nI (dn 5)), .int (nI (dh 5)), .ref (zda 5 + 1), .ref (zda 5 + 2), .ref (zda 5 + 3), .ref (zda 5 + 4), .ref (zda 5 + 5)]),
  zrn 6 (dw 5),
  zrn 6 (dk 5),
  zrn 6 (de 5),
  zrn 6 (dx 5),
  zrn 30 (dt 5),
  (1, [.int (nI (dn 6)), .int (nI (dh 6)), .ref (zda 6 + 1), .ref (zda 6 + 2), .ref (zda 6 + 3), .ref (zda 6 + 4), .ref (zda 6 + 5)]),
  zrn 6 (dw 6),
  zrn 6 (dk 6),
  zrn 6 (de 6),
  zrn 6 (dx 6),
  zrn 30 (dt 6),
  (1, [.int (nI (dn 7)), .int (nI (dh 7)), .ref (zda 7 + 1), .ref (zda 7 + 2), .ref (zda 7 + 3), .ref (zda 7 + 4), .ref (zda 7 + 5)]),
  zrn 6 (dw 7),
  zrn 6 (dk 7),
  zrn 6 (de 7),
  zrn 6 (dx 7),
  zrn 30 (dt 7),
  (1, [.int (nI (dn 8)), .int (nI (dh 8)), .ref (zda 8 + 1), .ref (zda 8 + 2), .ref (zda 8 + 3), .ref (zda 8 + 4), .ref (zda 8 + 5)]),
  zrn 6 (dw 8),
  zrn 6 (dk 8),
  zrn 6 (de 8),
  zrn 6 (dx 8),
  zrn 30 (dt 8),
  (1, [.int (nI (dn 9)), .int (nI (dh 9)), .ref (zda 9 + 1), .ref (zda 9 + 2), .ref (zda 9 + 3), .ref (zda 9 + 4), .ref (zda 9 + 5)]),
  zrn 6 (dw 9),
  zrn 6 (dk 9),
  zrn 6 (de 9),
  zrn 6 (dx 9),
  zrn 30 (dt 9),
  (2, [.ref 78, .int (nI ks)]),
  zra 2 (fun j => zda (kq j)),
  (1, [.int (nI (dn 10)), .int (nI (dh 10)), .ref (zda 10 + 1), .ref (zda 10 + 2), .ref (zda 10 + 3), .ref (zda 10 + 4), .ref (zda 10 + 5)]),
  zrn 6 (dw 10),
  zrn 6 (dk 10),
  zrn 6 (de 10),
  zrn 6 (dx 10),
  zrn 30 (dt 10),
  (1, [.int (nI (dn 11)), .int (nI (dh 11)), .ref (zda 11 + 1), .ref (zda 11 + 2), .ref (zda 11 + 3), .ref (zda 11 + 4), .ref (zda 11 + 5)]),
  zrn 6 (dw 11),
  zrn 6 (dk 11),
  zrn 6 (de 11),
  zrn 6 (dx 11),
  zrn 30 (dt 11),
  (3, [.ref 92, .ref 93, .int (nI ss)]),
  zrn 6 sc,
  zrn 6 sn,
  (6, [.ref 95, .ref 96, .ref 97, .int (nI wp), .int (nI wt)]),
  zrn 6 wm,
  zrn 6 wb,
  zrn 36 wr,
  (0, [.ref 99, .ref 100, .ref 101, .ref 102, .ref 103, .int (nI aq), .int (nI al)]),
  zrn 6 aw,
  zrn 6 ak,
  zrn 30 av,
  zrn 6 ap,
  zrn 6 an]
section
variable {M : ZH} {tl tp : Nat} {tb : Nat → Nat} {cu : Nat} {tk tq tm : Nat → Nat} {tw : Nat → Int32} {tc : Nat → Nat} {tr tg tt ts tv : Nat → Nat → Nat} {dn dh : Nat → Nat} {dw dk de dx dt : Nat → Nat → Nat} {ps : Nat} {pd : Nat → Nat} {ks : Nat} {kq : Nat → Nat} {ss : Nat} {sc sn wm wb wr : Nat → Nat} {wp wt : Nat} {aw ak av ap an : Nat → Nat} {aq al : Nat} {d t : Nat}
theorem zK_len : (zK tl tp tb cu tk tq tm tw tc tr tg tt ts tv dn dh dw dk de dx dt ps pd ks kq ss sc sn wm wb wr wp wt aw ak av ap an aq al).length = 104 := rfl
theorem zKM {K M : ZH} {k : Nat} {c : ZC} (hk : K[k]? = some c) : (K ++ M)[k]? = some c := by rw [List.getElem?_append_left (List.getElem?_eq_some_iff.mp hk).1]; exact hk
theorem zKS {K M K2 : ZH} {k : Nat} {c : ZC} (hl : k < K.length) (hs : K.set k c = K2) : (K ++ M).set k c = K2 ++ M := by subst hs; exact List.set_append_left _ _ hl
theorem kc_main : (zK tl tp tb cu tk tq tm tw tc tr tg tt ts tv dn dh dw dk de dx dt ps pd ks kq ss sc sn wm wb wr wp wt aw ak av ap an aq al ++ M)[0]? = some ((7, [.ref 1, .ref (zta cu), .ref (zta (1 - cu)), .ref (zda 0), .ref (zda 1), .ref 27, .ref 77, .ref 91, .ref 94, .ref 98])) := zKM rfl
theorem kg_main_0 : zget (zK tl tp tb cu tk tq tm tw tc tr tg tt ts tv dn dh dw dk de dx dt ps pd ks kq ss sc sn wm wb wr wp wt aw ak av ap an aq al ++ M) 0 7 0 = some (.ref 1) := zget_of kc_main rfl
theorem kg_main_1 : zget (zK tl tp tb cu tk tq tm tw tc tr tg tt ts tv dn dh dw dk de dx dt ps pd ks kq ss sc sn wm wb wr wp wt aw ak av ap an aq al ++ M) 0 7 1 = some (.ref (zta cu)) := zget_of kc_main rfl
theorem kg_main_2 : zget (zK tl tp tb cu tk tq tm tw tc tr tg tt ts tv dn dh dw dk de dx dt ps pd ks kq ss sc sn wm wb wr wp wt aw ak av ap an aq al ++ M) 0 7 2 = some (.ref (zta (1 - cu))) := zget_of kc_main rfl
theorem kg_main_3 : zget (zK tl tp tb cu tk tq tm tw tc tr tg tt ts tv dn dh dw dk de dx dt ps pd ks kq ss sc sn wm wb wr wp wt aw ak av ap an aq al ++ M) 0 7 3 = some (.ref (zda 0)) := zget_of kc_main rfl
theorem kg_main_4 : zget (zK tl tp tb cu tk tq tm tw tc tr tg tt ts tv dn dh dw dk de dx dt ps pd ks kq ss sc sn wm wb wr wp wt aw ak av ap an aq al ++ M) 0 7 4 = some (.ref (zda 1)) := zget_of kc_main rfl
theorem kg_main_5 : zget (zK tl tp tb cu tk tq tm tw tc tr tg tt ts tv dn dh dw dk de dx dt ps pd ks kq ss sc sn wm wb wr wp wt aw ak av ap an aq al ++ M) 0 7 5 = some (.ref 27) := zget_of kc_main rfl
theorem kg_main_6 : zget (zK tl tp tb cu tk tq tm tw tc tr tg tt ts tv dn dh dw dk de dx dt ps pd ks kq ss sc sn wm wb wr wp wt aw ak av ap an aq al ++ M) 0 7 6 = some (.ref 77) := zget_of kc_main rfl
theorem kg_main_7 : zget (zK tl tp tb cu tk tq tm tw tc tr tg tt ts tv dn dh dw dk de dx dt ps pd ks kq ss sc sn wm wb wr wp wt aw ak av ap an aq al ++ M) 0 7 7 = some (.ref 91) := zget_of kc_main rfl
theorem kg_main_8 : zget (zK tl tp tb cu tk tq tm tw tc tr tg tt ts tv dn dh dw dk de dx dt ps pd ks kq ss sc sn wm wb wr wp wt aw ak av ap an aq al ++ M) 0 7 8 = some (.ref 94) := zget_of kc_main rfl
theorem kg_main_9 : zget (zK tl tp tb cu tk tq tm tw tc tr tg tt ts tv dn dh dw dk de dx dt ps pd ks kq ss sc sn wm wb wr wp wt aw ak av ap an aq al ++ M) 0 7 9 = some (.ref 98) := zget_of kc_main rfl
theorem kt_main : ztag (zK tl tp tb cu tk tq tm tw tc tr tg tt ts tv dn dh dw dk de dx dt ps pd ks kq ss sc sn wm wb wr wp wt aw ak av ap an aq al ++ M) 0 = some 7 := ztag_of kc_main
theorem kc_text : (zK tl tp tb cu tk tq tm tw tc tr tg tt ts tv dn dh dw dk de dx dt ps pd ks kq ss sc sn wm wb wr wp wt aw ak av ap an aq al ++ M)[1]? = some ((4, [.ref 2, .int (nI tl), .int (nI tp)])) := zKM rfl
theorem ke_text_1 {x : Nat} : (zK tl tp tb cu tk tq tm tw tc tr tg tt ts tv dn dh dw dk de dx dt ps pd ks kq ss sc sn wm wb wr wp wt aw ak av ap an aq al ++ M).set (1) ((4, [.ref 2, .int (nI x), .int (nI tp)])) = zK (x) tp tb cu tk tq tm tw tc tr tg tt ts tv dn dh dw dk de dx dt ps pd ks kq ss sc sn wm wb wr wp wt aw ak av ap an aq al ++ M := zKS (Nat.le_of_ble_eq_true rfl) rfl
theorem ke_text_2 {x : Nat} : (zK tl tp tb cu tk tq tm tw tc tr tg tt ts tv dn dh dw dk de dx dt ps pd ks kq ss sc sn wm wb wr wp wt aw ak av ap an aq al ++ M).set (1) ((4, [.ref 2, .int (nI tl), .int (nI x)])) = zK tl (x) tb cu tk tq tm tw tc tr tg tt ts tv dn dh dw dk de dx dt ps pd ks kq ss sc sn wm wb wr wp wt aw ak av ap an aq al ++ M := zKS (Nat.le_of_ble_eq_true rfl) rfl
theorem kg_text_0 : zget (zK tl tp tb cu tk tq tm tw tc tr tg tt ts tv dn dh dw dk de dx dt ps pd ks kq ss sc sn wm wb wr wp wt aw ak av ap an aq al ++ M) (1) 4 0 = some (.ref 2) := zget_of (kc_text) rfl
theorem kg_text_1 : zget (zK tl tp tb cu tk tq tm tw tc tr tg tt ts tv dn dh dw dk de dx dt ps pd ks kq ss sc sn wm wb wr wp wt aw ak av ap an aq al ++ M) (1) 4 1 = some (.int (nI tl)) := zget_of (kc_text) rfl
theorem kg_text_2 : zget (zK tl tp tb cu tk tq tm tw tc tr tg tt ts tv dn dh dw dk de dx dt ps pd ks kq ss sc sn wm wb wr wp wt aw ak av ap an aq al ++ M) (1) 4 2 = some (.int (nI tp)) := zget_of (kc_text) rfl
theorem kp_text_1 {x : Nat} : zput (zK tl tp tb cu tk tq tm tw tc tr tg tt ts tv dn dh dw dk de dx dt ps pd ks kq ss sc sn wm wb wr wp wt aw ak av ap an aq al ++ M) (1) 4 1 (.int (nI x)) = some (zK (x) tp tb cu tk tq tm tw tc tr tg tt ts tv dn dh dw dk de dx dt ps pd ks kq ss sc sn wm wb wr wp wt aw ak av ap an aq al ++ M) := zput_of (kc_text) (Nat.le_of_ble_eq_true rfl) rfl (ke_text_1)
theorem kp_text_2 {x : Nat} : zput (zK tl tp tb cu tk tq tm tw tc tr tg tt ts tv dn dh dw dk de dx dt ps pd ks kq ss sc sn wm wb wr wp wt aw ak av ap an aq al ++ M) (1) 4 2 (.int (nI x)) = some (zK tl (x) tb cu tk tq tm tw tc tr tg tt ts tv dn dh dw dk de dx dt ps pd ks kq ss sc sn wm wb wr wp wt aw ak av ap an aq al ++ M) := zput_of (kc_text) (Nat.le_of_ble_eq_true rfl) rfl (ke_text_2)
theorem kt_text : ztag (zK tl tp tb cu tk tq tm tw tc tr tg tt ts tv dn dh dw dk de dx dt ps pd ks kq ss sc sn wm wb wr wp wt aw ak av ap an aq al ++ M) (1) = some 4 := ztag_of (kc_text)
theorem kc_tb : (zK tl tp tb cu tk tq tm tw tc tr tg tt ts tv dn dh dw dk de dx dt ps pd ks kq ss sc sn wm wb wr wp wt aw ak av ap an aq al ++ M)[2]? = some (zrn 300 tb) := zKM rfl
theorem ke_tb {g : Nat → Nat} : (zK tl tp tb cu tk tq tm tw tc tr tg tt ts tv dn dh dw dk de dx dt ps pd ks kq ss sc sn wm wb wr wp wt aw ak av ap an aq al ++ M).set (2) (zrn 300 g) = zK tl tp (g) cu tk tq tm tw tc tr tg tt ts tv dn dh dw dk de dx dt ps pd ks kq ss sc sn wm wb wr wp wt aw ak av ap an aq al ++ M := zKS (Nat.le_of_ble_eq_true rfl) rfl
theorem ka_tb {i : Nat} (hi : i < 300) : zaldI (zK tl tp tb cu tk tq tm tw tc tr tg tt ts tv dn dh dw dk de dx dt ps pd ks kq ss sc sn wm wb wr wp wt aw ak av ap an aq al ++ M) 20 (2) (nI i) = some (nI (tb i)) := zald_n (kc_tb) hi (by decide)
theorem ks_tb {i x : Nat} (hi : i < 300) : zast (zK tl tp tb cu tk tq tm tw tc tr tg tt ts tv dn dh dw dk de dx dt ps pd ks kq ss sc sn wm wb wr wp wt aw ak av ap an aq al ++ M) 20 (2) (nI i) (.int (nI x)) = some (zK tl tp (va_up tb i x) cu tk tq tm tw tc tr tg tt ts tv dn dh dw dk de dx dt ps pd ks kq ss sc sn wm wb wr wp wt aw ak av ap an aq al ++ M) := zast_n (kc_tb) hi (by decide) (ke_tb)
theorem kc_town (ht : t < 2) : (zK tl tp tb cu tk tq tm tw tc tr tg tt ts tv dn dh dw dk de dx dt ps pd ks kq ss sc sn wm wb wr wp wt aw ak av ap an aq al ++ M)[zta t]? = some ((5, [.int (nI (tk t)), .int (nI (tq t)), .int (nI (tm t)), .int (tw t), .int (nI (tc t)), .ref (zta t + 1), .ref (zta t + 2), .ref (zta t + 3), .ref (zta t + 4), .ref (zta t + 5)])) := by
  rcases (show t = 0 ∨ t = 1 by omega) with rfl | rfl <;> exact zKM rfl
theorem ke_town_0 (ht : t < 2) {x : Nat} : (zK tl tp tb cu tk tq tm tw tc tr tg tt ts tv dn dh dw dk de dx dt ps pd ks kq ss sc sn wm wb wr wp wt aw ak av ap an aq al ++ M).set (zta t) ((5, [.int (nI x), .int (nI (tq t)), .int (nI (tm t)), .int (tw t), .int (nI (tc t)), .ref (zta t + 1), .ref (zta t + 2), .ref (zta t + 3), .ref (zta t + 4), .ref (zta t + 5)])) = zK tl tp tb cu (va_up tk t x) tq tm tw tc tr tg tt ts tv dn dh dw dk de dx dt ps pd ks kq ss sc sn wm wb wr wp wt aw ak av ap an aq al ++ M := by
  rcases (show t = 0 ∨ t = 1 by omega) with rfl | rfl <;> exact zKS (Nat.le_of_ble_eq_true rfl) rfl
theorem ke_town_1 (ht : t < 2) {x : Nat} : (zK tl tp tb cu tk tq tm tw tc tr tg tt ts tv dn dh dw dk de dx dt ps pd ks kq ss sc sn wm wb wr wp wt aw ak av ap an aq al ++ M).set (zta t) ((5, [.int (nI (tk t)), .int (nI x), .int (nI (tm t)), .int (tw t), .int (nI (tc t)), .ref (zta t + 1), .ref (zta t + 2), .ref (zta t + 3), .ref (zta t + 4), .ref (zta t + 5)])) = zK tl tp tb cu tk (va_up tq t x) tm tw tc tr tg tt ts tv dn dh dw dk de dx dt ps pd ks kq ss sc sn wm wb wr wp wt aw ak av ap an aq al ++ M := by
  rcases (show t = 0 ∨ t = 1 by omega) with rfl | rfl <;> exact zKS (Nat.le_of_ble_eq_true rfl) rfl
theorem ke_town_2 (ht : t < 2) {x : Nat} : (zK tl tp tb cu tk tq tm tw tc tr tg tt ts tv dn dh dw dk de dx dt ps pd ks kq ss sc sn wm wb wr wp wt aw ak av ap an aq al ++ M).set (zta t) ((5, [.int (nI (tk t)), .int (nI (tq t)), .int (nI x), .int (tw t), .int (nI (tc t)), .ref (zta t + 1), .ref (zta t + 2), .ref (zta t + 3), .ref (zta t + 4), .ref (zta t + 5)])) = zK tl tp tb cu tk tq (va_up tm t x) tw tc tr tg tt ts tv dn dh dw dk de dx dt ps pd ks kq ss sc sn wm wb wr wp wt aw ak av ap an aq al ++ M := by
  rcases (show t = 0 ∨ t = 1 by omega) with rfl | rfl <;> exact zKS (Nat.le_of_ble_eq_true rfl) rfl
theorem ke_town_3 (ht : t < 2) {z : Int32} : (zK tl tp tb cu tk tq tm tw tc tr tg tt ts tv dn dh dw dk de dx dt ps pd ks kq ss sc sn wm wb wr wp wt aw ak av ap an aq al ++ M).set (zta t) ((5, [.int (nI (tk t)), .int (nI (tq t)), .int (nI (tm t)), .int z, .int (nI (tc t)), .ref (zta t + 1), .ref (zta t + 2), .ref (zta t + 3), .ref (zta t + 4), .ref (zta t + 5)])) = zK tl tp tb cu tk tq tm (va_up tw t z) tc tr tg tt ts tv dn dh dw dk de dx dt ps pd ks kq ss sc sn wm wb wr wp wt aw ak av ap an aq al ++ M := by
  rcases (show t = 0 ∨ t = 1 by omega) with rfl | rfl <;> exact zKS (Nat.le_of_ble_eq_true rfl) rfl
theorem ke_town_4 (ht : t < 2) {x : Nat} : (zK tl tp tb cu tk tq tm tw tc tr tg tt ts tv dn dh dw dk de dx dt ps pd ks kq ss sc sn wm wb wr wp wt aw ak av ap an aq al ++ M).set (zta t) ((5, [.int (nI (tk t)), .int (nI (tq t)), .int (nI (tm t)), .int (tw t), .int (nI x), .ref (zta t + 1), .ref (zta t + 2), .ref (zta t + 3), .ref (zta t + 4), .ref (zta t + 5)])) = zK tl tp tb cu tk tq tm tw (va_up tc t x) tr tg tt ts tv dn dh dw dk de dx dt ps pd ks kq ss sc sn wm wb wr wp wt aw ak av ap an aq al ++ M := by
  rcases (show t = 0 ∨ t = 1 by omega) with rfl | rfl <;> exact zKS (Nat.le_of_ble_eq_true rfl) rfl
theorem kg_town_0 (ht : t < 2) : zget (zK tl tp tb cu tk tq tm tw tc tr tg tt ts tv dn dh dw dk de dx dt ps pd ks kq ss sc sn wm wb wr wp wt aw ak av ap an aq al ++ M) (zta t) 5 0 = some (.int (nI (tk t))) := zget_of (kc_town ht) rfl
theorem kg_town_1 (ht : t < 2) : zget (zK tl tp tb cu tk tq tm tw tc tr tg tt ts tv dn dh dw dk de dx dt ps pd ks kq ss sc sn wm wb wr wp wt aw ak av ap an aq al ++ M) (zta t) 5 1 = some (.int (nI (tq t))) := zget_of (kc_town ht) rfl
theorem kg_town_2 (ht : t < 2) : zget (zK tl tp tb cu tk tq tm tw tc tr tg tt ts tv dn dh dw dk de dx dt ps pd ks kq ss sc sn wm wb wr wp wt aw ak av ap an aq al ++ M) (zta t) 5 2 = some (.int (nI (tm t))) := zget_of (kc_town ht) rfl
theorem kg_town_3 (ht : t < 2) : zget (zK tl tp tb cu tk tq tm tw tc tr tg tt ts tv dn dh dw dk de dx dt ps pd ks kq ss sc sn wm wb wr wp wt aw ak av ap an aq al ++ M) (zta t) 5 3 = some (.int (tw t)) := zget_of (kc_town ht) rfl
theorem kg_town_4 (ht : t < 2) : zget (zK tl tp tb cu tk tq tm tw tc tr tg tt ts tv dn dh dw dk de dx dt ps pd ks kq ss sc sn wm wb wr wp wt aw ak av ap an aq al ++ M) (zta t) 5 4 = some (.int (nI (tc t))) := zget_of (kc_town ht) rfl
theorem kg_town_5 (ht : t < 2) : zget (zK tl tp tb cu tk tq tm tw tc tr tg tt ts tv dn dh dw dk de dx dt ps pd ks kq ss sc sn wm wb wr wp wt aw ak av ap an aq al ++ M) (zta t) 5 5 = some (.ref (zta t + 1)) := zget_of (kc_town ht) rfl
theorem kg_town_6 (ht : t < 2) : zget (zK tl tp tb cu tk tq tm tw tc tr tg tt ts tv dn dh dw dk de dx dt ps pd ks kq ss sc sn wm wb wr wp wt aw ak av ap an aq al ++ M) (zta t) 5 6 = some (.ref (zta t + 2)) := zget_of (kc_town ht) rfl
theorem kg_town_7 (ht : t < 2) : zget (zK tl tp tb cu tk tq tm tw tc tr tg tt ts tv dn dh dw dk de dx dt ps pd ks kq ss sc sn wm wb wr wp wt aw ak av ap an aq al ++ M) (zta t) 5 7 = some (.ref (zta t + 3)) := zget_of (kc_town ht) rfl
theorem kg_town_8 (ht : t < 2) : zget (zK tl tp tb cu tk tq tm tw tc tr tg tt ts tv dn dh dw dk de dx dt ps pd ks kq ss sc sn wm wb wr wp wt aw ak av ap an aq al ++ M) (zta t) 5 8 = some (.ref (zta t + 4)) := zget_of (kc_town ht) rfl
theorem kg_town_9 (ht : t < 2) : zget (zK tl tp tb cu tk tq tm tw tc tr tg tt ts tv dn dh dw dk de dx dt ps pd ks kq ss sc sn wm wb wr wp wt aw ak av ap an aq al ++ M) (zta t) 5 9 = some (.ref (zta t + 5)) := zget_of (kc_town ht) rfl
theorem kp_town_0 (ht : t < 2) {x : Nat} : zput (zK tl tp tb cu tk tq tm tw tc tr tg tt ts tv dn dh dw dk de dx dt ps pd ks kq ss sc sn wm wb wr wp wt aw ak av ap an aq al ++ M) (zta t) 5 0 (.int (nI x)) = some (zK tl tp tb cu (va_up tk t x) tq tm tw tc tr tg tt ts tv dn dh dw dk de dx dt ps pd ks kq ss sc sn wm wb wr wp wt aw ak av ap an aq al ++ M) := zput_of (kc_town ht) (Nat.le_of_ble_eq_true rfl) rfl (ke_town_0 ht)
theorem kp_town_1 (ht : t < 2) {x : Nat} : zput (zK tl tp tb cu tk tq tm tw tc tr tg tt ts tv dn dh dw dk de dx dt ps pd ks kq ss sc sn wm wb wr wp wt aw ak av ap an aq al ++ M) (zta t) 5 1 (.int (nI x)) = some (zK tl tp tb cu tk (va_up tq t x) tm tw tc tr tg tt ts tv dn dh dw dk de dx dt ps pd ks kq ss sc sn wm wb wr wp wt aw ak av ap an aq al ++ M) := zput_of (kc_town ht) (Nat.le_of_ble_eq_true rfl) rfl (ke_town_1 ht)
theorem kp_town_2 (ht : t < 2) {x : Nat} : zput (zK tl tp tb cu tk tq tm tw tc tr tg tt ts tv dn dh dw dk de dx dt ps pd ks kq ss sc sn wm wb wr wp wt aw ak av ap an aq al ++ M) (zta t) 5 2 (.int (nI x)) = some (zK tl tp tb cu tk tq (va_up tm t x) tw tc tr tg tt ts tv dn dh dw dk de dx dt ps pd ks kq ss sc sn wm wb wr wp wt aw ak av ap an aq al ++ M) := zput_of (kc_town ht) (Nat.le_of_ble_eq_true rfl) rfl (ke_town_2 ht)
theorem kp_town_3 (ht : t < 2) {z : Int32} : zput (zK tl tp tb cu tk tq tm tw tc tr tg tt ts tv dn dh dw dk de dx dt ps pd ks kq ss sc sn wm wb wr wp wt aw ak av ap an aq al ++ M) (zta t) 5 3 (.int z) = some (zK tl tp tb cu tk tq tm (va_up tw t z) tc tr tg tt ts tv dn dh dw dk de dx dt ps pd ks kq ss sc sn wm wb wr wp wt aw ak av ap an aq al ++ M) := zput_of (kc_town ht) (Nat.le_of_ble_eq_true rfl) rfl (ke_town_3 ht)
theorem kp_town_4 (ht : t < 2) {x : Nat} : zput (zK tl tp tb cu tk tq tm tw tc tr tg tt ts tv dn dh dw dk de dx dt ps pd ks kq ss sc sn wm wb wr wp wt aw ak av ap an aq al ++ M) (zta t) 5 4 (.int (nI x)) = some (zK tl tp tb cu tk tq tm tw (va_up tc t x) tr tg tt ts tv dn dh dw dk de dx dt ps pd ks kq ss sc sn wm wb wr wp wt aw ak av ap an aq al ++ M) := zput_of (kc_town ht) (Nat.le_of_ble_eq_true rfl) rfl (ke_town_4 ht)
theorem kt_town (ht : t < 2) : ztag (zK tl tp tb cu tk tq tm tw tc tr tg tt ts tv dn dh dw dk de dx dt ps pd ks kq ss sc sn wm wb wr wp wt aw ak av ap an aq al ++ M) (zta t) = some 5 := ztag_of (kc_town ht)
theorem kc_tr (ht : t < 2) : (zK tl tp tb cu tk tq tm tw tc tr tg tt ts tv dn dh dw dk de dx dt ps pd ks kq ss sc sn wm wb wr wp wt aw ak av ap an aq al ++ M)[zta t + 1]? = some (zrn 5 (tr t)) := by
  rcases (show t = 0 ∨ t = 1 by omega) with rfl | rfl <;> exact zKM rfl
theorem ke_tr (ht : t < 2) {g : Nat → Nat} : (zK tl tp tb cu tk tq tm tw tc tr tg tt ts tv dn dh dw dk de dx dt ps pd ks kq ss sc sn wm wb wr wp wt aw ak av ap an aq al ++ M).set (zta t + 1) (zrn 5 g) = zK tl tp tb cu tk tq tm tw tc (va_up tr t (g)) tg tt ts tv dn dh dw dk de dx dt ps pd ks kq ss sc sn wm wb wr wp wt aw ak av ap an aq al ++ M := by
  rcases (show t = 0 ∨ t = 1 by omega) with rfl | rfl <;> exact zKS (Nat.le_of_ble_eq_true rfl) rfl
theorem ka_tr (ht : t < 2) {i : Nat} (hi : i < 5) : zaldI (zK tl tp tb cu tk tq tm tw tc tr tg tt ts tv dn dh dw dk de dx dt ps pd ks kq ss sc sn wm wb wr wp wt aw ak av ap an aq al ++ M) 20 (zta t + 1) (nI i) = some (nI ((tr t) i)) := zald_n (kc_tr ht) hi (by decide)
theorem ks_tr (ht : t < 2) {i x : Nat} (hi : i < 5) : zast (zK tl tp tb cu tk tq tm tw tc tr tg tt ts tv dn dh dw dk de dx dt ps pd ks kq ss sc sn wm wb wr wp wt aw ak av ap an aq al ++ M) 20 (zta t + 1) (nI i) (.int (nI x)) = some (zK tl tp tb cu tk tq tm tw tc (va_up tr t (va_up (tr t) i x)) tg tt ts tv dn dh dw dk de dx dt ps pd ks kq ss sc sn wm wb wr wp wt aw ak av ap an aq al ++ M) := zast_n (kc_tr ht) hi (by decide) (ke_tr ht)
theorem kc_tg (ht : t < 2) : (zK tl tp tb cu tk tq tm tw tc tr tg tt ts tv dn dh dw dk de dx dt ps pd ks kq ss sc sn wm wb wr wp wt aw ak av ap an aq al ++ M)[zta t + 2]? = some (zrn 5 (tg t)) := by
  rcases (show t = 0 ∨ t = 1 by omega) with rfl | rfl <;> exact zKM rfl
theorem ke_tg (ht : t < 2) {g : Nat → Nat} : (zK tl tp tb cu tk tq tm tw tc tr tg tt ts tv dn dh dw dk de dx dt ps pd ks kq ss sc sn wm wb wr wp wt aw ak av ap an aq al ++ M).set (zta t + 2) (zrn 5 g) = zK tl tp tb cu tk tq tm tw tc tr (va_up tg t (g)) tt ts tv dn dh dw dk de dx dt ps pd ks kq ss sc sn wm wb wr wp wt aw ak av ap an aq al ++ M := by
  rcases (show t = 0 ∨ t = 1 by omega) with rfl | rfl <;> exact zKS (Nat.le_of_ble_eq_true rfl) rfl
theorem ka_tg (ht : t < 2) {i : Nat} (hi : i < 5) : zaldI (zK tl tp tb cu tk tq tm tw tc tr tg tt ts tv dn dh dw dk de dx dt ps pd ks kq ss sc sn wm wb wr wp wt aw ak av ap an aq al ++ M) 20 (zta t + 2) (nI i) = some (nI ((tg t) i)) := zald_n (kc_tg ht) hi (by decide)
theorem ks_tg (ht : t < 2) {i x : Nat} (hi : i < 5) : zast (zK tl tp tb cu tk tq tm tw tc tr tg tt ts tv dn dh dw dk de dx dt ps pd ks kq ss sc sn wm wb wr wp wt aw ak av ap an aq al ++ M) 20 (zta t + 2) (nI i) (.int (nI x)) = some (zK tl tp tb cu tk tq tm tw tc tr (va_up tg t (va_up (tg t) i x)) tt ts tv dn dh dw dk de dx dt ps pd ks kq ss sc sn wm wb wr wp wt aw ak av ap an aq al ++ M) := zast_n (kc_tg ht) hi (by decide) (ke_tg ht)
theorem kc_tt (ht : t < 2) : (zK tl tp tb cu tk tq tm tw tc tr tg tt ts tv dn dh dw dk de dx dt ps pd ks kq ss sc sn wm wb wr wp wt aw ak av ap an aq al ++ M)[zta t + 3]? = some (zrn 5 (tt t)) := by
  rcases (show t = 0 ∨ t = 1 by omega) with rfl | rfl <;> exact zKM rfl
theorem ke_tt (ht : t < 2) {g : Nat → Nat} : (zK tl tp tb cu tk tq tm tw tc tr tg tt ts tv dn dh dw dk de dx dt ps pd ks kq ss sc sn wm wb wr wp wt aw ak av ap an aq al ++ M).set (zta t + 3) (zrn 5 g) = zK tl tp tb cu tk tq tm tw tc tr tg (va_up tt t (g)) ts tv dn dh dw dk de dx dt ps pd ks kq ss sc sn wm wb wr wp wt aw ak av ap an aq al ++ M := by
  rcases (show t = 0 ∨ t = 1 by omega) with rfl | rfl <;> exact zKS (Nat.le_of_ble_eq_true rfl) rfl
theorem ka_tt (ht : t < 2) {i : Nat} (hi : i < 5) : zaldI (zK tl tp tb cu tk tq tm tw tc tr tg tt ts tv dn dh dw dk de dx dt ps pd ks kq ss sc sn wm wb wr wp wt aw ak av ap an aq al ++ M) 20 (zta t + 3) (nI i) = some (nI ((tt t) i)) := zald_n (kc_tt ht) hi (by decide)
theorem ks_tt (ht : t < 2) {i x : Nat} (hi : i < 5) : zast (zK tl tp tb cu tk tq tm tw tc tr tg tt ts tv dn dh dw dk de dx dt ps pd ks kq ss sc sn wm wb wr wp wt aw ak av ap an aq al ++ M) 20 (zta t + 3) (nI i) (.int (nI x)) = some (zK tl tp tb cu tk tq tm tw tc tr tg (va_up tt t (va_up (tt t) i x)) ts tv dn dh dw dk de dx dt ps pd ks kq ss sc sn wm wb wr wp wt aw ak av ap an aq al ++ M) := zast_n (kc_tt ht) hi (by decide) (ke_tt ht)
theorem kc_ts (ht : t < 2) : (zK tl tp tb cu tk tq tm tw tc tr tg tt ts tv dn dh dw dk de dx dt ps pd ks kq ss sc sn wm wb wr wp wt aw ak av ap an aq al ++ M)[zta t + 4]? = some (zrn 6 (ts t)) := by
  rcases (show t = 0 ∨ t = 1 by omega) with rfl | rfl <;> exact zKM rfl
theorem ke_ts (ht : t < 2) {g : Nat → Nat} : (zK tl tp tb cu tk tq tm tw tc tr tg tt ts tv dn dh dw dk de dx dt ps pd ks kq ss sc sn wm wb wr wp wt aw ak av ap an aq al ++ M).set (zta t + 4) (zrn 6 g) = zK tl tp tb cu tk tq tm tw tc tr tg tt (va_up ts t (g)) tv dn dh dw dk de dx dt ps pd ks kq ss sc sn wm wb wr wp wt aw ak av ap an aq al ++ M := by
  rcases (show t = 0 ∨ t = 1 by omega) with rfl | rfl <;> exact zKS (Nat.le_of_ble_eq_true rfl) rfl
theorem ka_ts (ht : t < 2) {i : Nat} (hi : i < 6) : zaldI (zK tl tp tb cu tk tq tm tw tc tr tg tt ts tv dn dh dw dk de dx dt ps pd ks kq ss sc sn wm wb wr wp wt aw ak av ap an aq al ++ M) 20 (zta t + 4) (nI i) = some (nI ((ts t) i)) := zald_n (kc_ts ht) hi (by decide)
theorem ks_ts (ht : t < 2) {i x : Nat} (hi : i < 6) : zast (zK tl tp tb cu tk tq tm tw tc tr tg tt ts tv dn dh dw dk de dx dt ps pd ks kq ss sc sn wm wb wr wp wt aw ak av ap an aq al ++ M) 20 (zta t + 4) (nI i) (.int (nI x)) = some (zK tl tp tb cu tk tq tm tw tc tr tg tt (va_up ts t (va_up (ts t) i x)) tv dn dh dw dk de dx dt ps pd ks kq ss sc sn wm wb wr wp wt aw ak av ap an aq al ++ M) := zast_n (kc_ts ht) hi (by decide) (ke_ts ht)
theorem kc_tv (ht : t < 2) : (zK tl tp tb cu tk tq tm tw tc tr tg tt ts tv dn dh dw dk de dx dt ps pd ks kq ss sc sn wm wb wr wp wt aw ak av ap an aq al ++ M)[zta t + 5]? = some (zrn 30 (tv t)) := by
  rcases (show t = 0 ∨ t = 1 by omega) with rfl | rfl <;> exact zKM rfl
theorem ke_tv (ht : t < 2) {g : Nat → Nat} : (zK tl tp tb cu tk tq tm tw tc tr tg tt ts tv dn dh dw dk de dx dt ps pd ks kq ss sc sn wm wb wr wp wt aw ak av ap an aq al ++ M).set (zta t + 5) (zrn 30 g) = zK tl tp tb cu tk tq tm tw tc tr tg tt ts (va_up tv t (g)) dn dh dw dk de dx dt ps pd ks kq ss sc sn wm wb wr wp wt aw ak av ap an aq al ++ M := by
  rcases (show t = 0 ∨ t = 1 by omega) with rfl | rfl <;> exact zKS (Nat.le_of_ble_eq_true rfl) rfl
theorem ka_tv (ht : t < 2) {i : Nat} (hi : i < 30) : zaldI (zK tl tp tb cu tk tq tm tw tc tr tg tt ts tv dn dh dw dk de dx dt ps pd ks kq ss sc sn wm wb wr wp wt aw ak av ap an aq al ++ M) 20 (zta t + 5) (nI i) = some (nI ((tv t) i)) := zald_n (kc_tv ht) hi (by decide)
theorem ks_tv (ht : t < 2) {i x : Nat} (hi : i < 30) : zast (zK tl tp tb cu tk tq tm tw tc tr tg tt ts tv dn dh dw dk de dx dt ps pd ks kq ss sc sn wm wb wr wp wt aw ak av ap an aq al ++ M) 20 (zta t + 5) (nI i) (.int (nI x)) = some (zK tl tp tb cu tk tq tm tw tc tr tg tt ts (va_up tv t (va_up (tv t) i x)) dn dh dw dk de dx dt ps pd ks kq ss sc sn wm wb wr wp wt aw ak av ap an aq al ++ M) := zast_n (kc_tv ht) hi (by decide) (ke_tv ht)
theorem kc_day (hd : d < 12) : (zK tl tp tb cu tk tq tm tw tc tr tg tt ts tv dn dh dw dk de dx dt ps pd ks kq ss sc sn wm wb wr wp wt aw ak av ap an aq al ++ M)[zda d]? = some ((1, [.int (nI (dn d)), .int (nI (dh d)), .ref (zda d + 1), .ref (zda d + 2), .ref (zda d + 3), .ref (zda d + 4), .ref (zda d + 5)])) := by
  rcases (show d = 0 ∨ d = 1 ∨ d = 2 ∨ d = 3 ∨ d = 4 ∨ d = 5 ∨ d = 6 ∨ d = 7 ∨ d = 8 ∨ d = 9 ∨ d = 10 ∨ d = 11 by omega) with rfl | rfl | rfl | rfl | rfl | rfl | rfl | rfl | rfl | rfl | rfl | rfl <;> exact zKM rfl
theorem ke_day_0 (hd : d < 12) {x : Nat} : (zK tl tp tb cu tk tq tm tw tc tr tg tt ts tv dn dh dw dk de dx dt ps pd ks kq ss sc sn wm wb wr wp wt aw ak av ap an aq al ++ M).set (zda d) ((1, [.int (nI x), .int (nI (dh d)), .ref (zda d + 1), .ref (zda d + 2), .ref (zda d + 3), .ref (zda d + 4), .ref (zda d + 5)])) = zK tl tp tb cu tk tq tm tw tc tr tg tt ts tv (va_up dn d x) dh dw dk de dx dt ps pd ks kq ss sc sn wm wb wr wp wt aw ak av ap an aq al ++ M := by
  rcases (show d = 0 ∨ d = 1 ∨ d = 2 ∨ d = 3 ∨ d = 4 ∨ d = 5 ∨ d = 6 ∨ d = 7 ∨ d = 8 ∨ d = 9 ∨ d = 10 ∨ d = 11 by omega) with rfl | rfl | rfl | rfl | rfl | rfl | rfl | rfl | rfl | rfl | rfl | rfl <;> exact zKS (Nat.le_of_ble_eq_true rfl) rfl
theorem ke_day_1 (hd : d < 12) {x : Nat} : (zK tl tp tb cu tk tq tm tw tc tr tg tt ts tv dn dh dw dk de dx dt ps pd ks kq ss sc sn wm wb wr wp wt aw ak av ap an aq al ++ M).set (zda d) ((1, [.int (nI (dn d)), .int (nI x), .ref (zda d + 1), .ref (zda d + 2), .ref (zda d + 3), .ref (zda d + 4), .ref (zda d + 5)])) = zK tl tp tb cu tk tq tm tw tc tr tg tt ts tv dn (va_up dh d x) dw dk de dx dt ps pd ks kq ss sc sn wm wb wr wp wt aw ak av ap an aq al ++ M := by
  rcases (show d = 0 ∨ d = 1 ∨ d = 2 ∨ d = 3 ∨ d = 4 ∨ d = 5 ∨ d = 6 ∨ d = 7 ∨ d = 8 ∨ d = 9 ∨ d = 10 ∨ d = 11 by omega) with rfl | rfl | rfl | rfl | rfl | rfl | rfl | rfl | rfl | rfl | rfl | rfl <;> exact zKS (Nat.le_of_ble_eq_true rfl) rfl
theorem kg_day_0 (hd : d < 12) : zget (zK tl tp tb cu tk tq tm tw tc tr tg tt ts tv dn dh dw dk de dx dt ps pd ks kq ss sc sn wm wb wr wp wt aw ak av ap an aq al ++ M) (zda d) 1 0 = some (.int (nI (dn d))) := zget_of (kc_day hd) rfl
theorem kg_day_1 (hd : d < 12) : zget (zK tl tp tb cu tk tq tm tw tc tr tg tt ts tv dn dh dw dk de dx dt ps pd ks kq ss sc sn wm wb wr wp wt aw ak av ap an aq al ++ M) (zda d) 1 1 = some (.int (nI (dh d))) := zget_of (kc_day hd) rfl
theorem kg_day_2 (hd : d < 12) : zget (zK tl tp tb cu tk tq tm tw tc tr tg tt ts tv dn dh dw dk de dx dt ps pd ks kq ss sc sn wm wb wr wp wt aw ak av ap an aq al ++ M) (zda d) 1 2 = some (.ref (zda d + 1)) := zget_of (kc_day hd) rfl
theorem kg_day_3 (hd : d < 12) : zget (zK tl tp tb cu tk tq tm tw tc tr tg tt ts tv dn dh dw dk de dx dt ps pd ks kq ss sc sn wm wb wr wp wt aw ak av ap an aq al ++ M) (zda d) 1 3 = some (.ref (zda d + 2)) := zget_of (kc_day hd) rfl
theorem kg_day_4 (hd : d < 12) : zget (zK tl tp tb cu tk tq tm tw tc tr tg tt ts tv dn dh dw dk de dx dt ps pd ks kq ss sc sn wm wb wr wp wt aw ak av ap an aq al ++ M) (zda d) 1 4 = some (.ref (zda d + 3)) := zget_of (kc_day hd) rfl
theorem kg_day_5 (hd : d < 12) : zget (zK tl tp tb cu tk tq tm tw tc tr tg tt ts tv dn dh dw dk de dx dt ps pd ks kq ss sc sn wm wb wr wp wt aw ak av ap an aq al ++ M) (zda d) 1 5 = some (.ref (zda d + 4)) := zget_of (kc_day hd) rfl
theorem kg_day_6 (hd : d < 12) : zget (zK tl tp tb cu tk tq tm tw tc tr tg tt ts tv dn dh dw dk de dx dt ps pd ks kq ss sc sn wm wb wr wp wt aw ak av ap an aq al ++ M) (zda d) 1 6 = some (.ref (zda d + 5)) := zget_of (kc_day hd) rfl
theorem kp_day_0 (hd : d < 12) {x : Nat} : zput (zK tl tp tb cu tk tq tm tw tc tr tg tt ts tv dn dh dw dk de dx dt ps pd ks kq ss sc sn wm wb wr wp wt aw ak av ap an aq al ++ M) (zda d) 1 0 (.int (nI x)) = some (zK tl tp tb cu tk tq tm tw tc tr tg tt ts tv (va_up dn d x) dh dw dk de dx dt ps pd ks kq ss sc sn wm wb wr wp wt aw ak av ap an aq al ++ M) := zput_of (kc_day hd) (Nat.le_of_ble_eq_true rfl) rfl (ke_day_0 hd)
theorem kp_day_1 (hd : d < 12) {x : Nat} : zput (zK tl tp tb cu tk tq tm tw tc tr tg tt ts tv dn dh dw dk de dx dt ps pd ks kq ss sc sn wm wb wr wp wt aw ak av ap an aq al ++ M) (zda d) 1 1 (.int (nI x)) = some (zK tl tp tb cu tk tq tm tw tc tr tg tt ts tv dn (va_up dh d x) dw dk de dx dt ps pd ks kq ss sc sn wm wb wr wp wt aw ak av ap an aq al ++ M) := zput_of (kc_day hd) (Nat.le_of_ble_eq_true rfl) rfl (ke_day_1 hd)
theorem kt_day (hd : d < 12) : ztag (zK tl tp tb cu tk tq tm tw tc tr tg tt ts tv dn dh dw dk de dx dt ps pd ks kq ss sc sn wm wb wr wp wt aw ak av ap an aq al ++ M) (zda d) = some 1 := ztag_of (kc_day hd)
theorem kc_dw (hd : d < 12) : (zK tl tp tb cu tk tq tm tw tc tr tg tt ts tv dn dh dw dk de dx dt ps pd ks kq ss sc sn wm wb wr wp wt aw ak av ap an aq al ++ M)[zda d + 1]? = some (zrn 6 (dw d)) := by
  rcases (show d = 0 ∨ d = 1 ∨ d = 2 ∨ d = 3 ∨ d = 4 ∨ d = 5 ∨ d = 6 ∨ d = 7 ∨ d = 8 ∨ d = 9 ∨ d = 10 ∨ d = 11 by omega) with rfl | rfl | rfl | rfl | rfl | rfl | rfl | rfl | rfl | rfl | rfl | rfl <;> exact zKM rfl
theorem ke_dw (hd : d < 12) {g : Nat → Nat} : (zK tl tp tb cu tk tq tm tw tc tr tg tt ts tv dn dh dw dk de dx dt ps pd ks kq ss sc sn wm wb wr wp wt aw ak av ap an aq al ++ M).set (zda d + 1) (zrn 6 g) = zK tl tp tb cu tk tq tm tw tc tr tg tt ts tv dn dh (va_up dw d (g)) dk de dx dt ps pd ks kq ss sc sn wm wb wr wp wt aw ak av ap an aq al ++ M := by
  rcases (show d = 0 ∨ d = 1 ∨ d = 2 ∨ d = 3 ∨ d = 4 ∨ d = 5 ∨ d = 6 ∨ d = 7 ∨ d = 8 ∨ d = 9 ∨ d = 10 ∨ d = 11 by omega) with rfl | rfl | rfl | rfl | rfl | rfl | rfl | rfl | rfl | rfl | rfl | rfl <;> exact zKS (Nat.le_of_ble_eq_true rfl) rfl
theorem ka_dw (hd : d < 12) {i : Nat} (hi : i < 6) : zaldI (zK tl tp tb cu tk tq tm tw tc tr tg tt ts tv dn dh dw dk de dx dt ps pd ks kq ss sc sn wm wb wr wp wt aw ak av ap an aq al ++ M) 20 (zda d + 1) (nI i) = some (nI ((dw d) i)) := zald_n (kc_dw hd) hi (by decide)
theorem ks_dw (hd : d < 12) {i x : Nat} (hi : i < 6) : zast (zK tl tp tb cu tk tq tm tw tc tr tg tt ts tv dn dh dw dk de dx dt ps pd ks kq ss sc sn wm wb wr wp wt aw ak av ap an aq al ++ M) 20 (zda d + 1) (nI i) (.int (nI x)) = some (zK tl tp tb cu tk tq tm tw tc tr tg tt ts tv dn dh (va_up dw d (va_up (dw d) i x)) dk de dx dt ps pd ks kq ss sc sn wm wb wr wp wt aw ak av ap an aq al ++ M) := zast_n (kc_dw hd) hi (by decide) (ke_dw hd)
theorem kc_dk (hd : d < 12) : (zK tl tp tb cu tk tq tm tw tc tr tg tt ts tv dn dh dw dk de dx dt ps pd ks kq ss sc sn wm wb wr wp wt aw ak av ap an aq al ++ M)[zda d + 2]? = some (zrn 6 (dk d)) := by
  rcases (show d = 0 ∨ d = 1 ∨ d = 2 ∨ d = 3 ∨ d = 4 ∨ d = 5 ∨ d = 6 ∨ d = 7 ∨ d = 8 ∨ d = 9 ∨ d = 10 ∨ d = 11 by omega) with rfl | rfl | rfl | rfl | rfl | rfl | rfl | rfl | rfl | rfl | rfl | rfl <;> exact zKM rfl
theorem ke_dk (hd : d < 12) {g : Nat → Nat} : (zK tl tp tb cu tk tq tm tw tc tr tg tt ts tv dn dh dw dk de dx dt ps pd ks kq ss sc sn wm wb wr wp wt aw ak av ap an aq al ++ M).set (zda d + 2) (zrn 6 g) = zK tl tp tb cu tk tq tm tw tc tr tg tt ts tv dn dh dw (va_up dk d (g)) de dx dt ps pd ks kq ss sc sn wm wb wr wp wt aw ak av ap an aq al ++ M := by
  rcases (show d = 0 ∨ d = 1 ∨ d = 2 ∨ d = 3 ∨ d = 4 ∨ d = 5 ∨ d = 6 ∨ d = 7 ∨ d = 8 ∨ d = 9 ∨ d = 10 ∨ d = 11 by omega) with rfl | rfl | rfl | rfl | rfl | rfl | rfl | rfl | rfl | rfl | rfl | rfl <;> exact zKS (Nat.le_of_ble_eq_true rfl) rfl
theorem ka_dk (hd : d < 12) {i : Nat} (hi : i < 6) : zaldI (zK tl tp tb cu tk tq tm tw tc tr tg tt ts tv dn dh dw dk de dx dt ps pd ks kq ss sc sn wm wb wr wp wt aw ak av ap an aq al ++ M) 20 (zda d + 2) (nI i) = some (nI ((dk d) i)) := zald_n (kc_dk hd) hi (by decide)
theorem ks_dk (hd : d < 12) {i x : Nat} (hi : i < 6) : zast (zK tl tp tb cu tk tq tm tw tc tr tg tt ts tv dn dh dw dk de dx dt ps pd ks kq ss sc sn wm wb wr wp wt aw ak av ap an aq al ++ M) 20 (zda d + 2) (nI i) (.int (nI x)) = some (zK tl tp tb cu tk tq tm tw tc tr tg tt ts tv dn dh dw (va_up dk d (va_up (dk d) i x)) de dx dt ps pd ks kq ss sc sn wm wb wr wp wt aw ak av ap an aq al ++ M) := zast_n (kc_dk hd) hi (by decide) (ke_dk hd)
theorem kc_de (hd : d < 12) : (zK tl tp tb cu tk tq tm tw tc tr tg tt ts tv dn dh dw dk de dx dt ps pd ks kq ss sc sn wm wb wr wp wt aw ak av ap an aq al ++ M)[zda d + 3]? = some (zrn 6 (de d)) := by
  rcases (show d = 0 ∨ d = 1 ∨ d = 2 ∨ d = 3 ∨ d = 4 ∨ d = 5 ∨ d = 6 ∨ d = 7 ∨ d = 8 ∨ d = 9 ∨ d = 10 ∨ d = 11 by omega) with rfl | rfl | rfl | rfl | rfl | rfl | rfl | rfl | rfl | rfl | rfl | rfl <;> exact zKM rfl
theorem ke_de (hd : d < 12) {g : Nat → Nat} : (zK tl tp tb cu tk tq tm tw tc tr tg tt ts tv dn dh dw dk de dx dt ps pd ks kq ss sc sn wm wb wr wp wt aw ak av ap an aq al ++ M).set (zda d + 3) (zrn 6 g) = zK tl tp tb cu tk tq tm tw tc tr tg tt ts tv dn dh dw dk (va_up de d (g)) dx dt ps pd ks kq ss sc sn wm wb wr wp wt aw ak av ap an aq al ++ M := by
  rcases (show d = 0 ∨ d = 1 ∨ d = 2 ∨ d = 3 ∨ d = 4 ∨ d = 5 ∨ d = 6 ∨ d = 7 ∨ d = 8 ∨ d = 9 ∨ d = 10 ∨ d = 11 by omega) with rfl | rfl | rfl | rfl | rfl | rfl | rfl | rfl | rfl | rfl | rfl | rfl <;> exact zKS (Nat.le_of_ble_eq_true rfl) rfl
theorem ka_de (hd : d < 12) {i : Nat} (hi : i < 6) : zaldI (zK tl tp tb cu tk tq tm tw tc tr tg tt ts tv dn dh dw dk de dx dt ps pd ks kq ss sc sn wm wb wr wp wt aw ak av ap an aq al ++ M) 20 (zda d + 3) (nI i) = some (nI ((de d) i)) := zald_n (kc_de hd) hi (by decide)
theorem ks_de (hd : d < 12) {i x : Nat} (hi : i < 6) : zast (zK tl tp tb cu tk tq tm tw tc tr tg tt ts tv dn dh dw dk de dx dt ps pd ks kq ss sc sn wm wb wr wp wt aw ak av ap an aq al ++ M) 20 (zda d + 3) (nI i) (.int (nI x)) = some (zK tl tp tb cu tk tq tm tw tc tr tg tt ts tv dn dh dw dk (va_up de d (va_up (de d) i x)) dx dt ps pd ks kq ss sc sn wm wb wr wp wt aw ak av ap an aq al ++ M) := zast_n (kc_de hd) hi (by decide) (ke_de hd)
theorem kc_dx (hd : d < 12) : (zK tl tp tb cu tk tq tm tw tc tr tg tt ts tv dn dh dw dk de dx dt ps pd ks kq ss sc sn wm wb wr wp wt aw ak av ap an aq al ++ M)[zda d + 4]? = some (zrn 6 (dx d)) := by
  rcases (show d = 0 ∨ d = 1 ∨ d = 2 ∨ d = 3 ∨ d = 4 ∨ d = 5 ∨ d = 6 ∨ d = 7 ∨ d = 8 ∨ d = 9 ∨ d = 10 ∨ d = 11 by omega) with rfl | rfl | rfl | rfl | rfl | rfl | rfl | rfl | rfl | rfl | rfl | rfl <;> exact zKM rfl
theorem ke_dx (hd : d < 12) {g : Nat → Nat} : (zK tl tp tb cu tk tq tm tw tc tr tg tt ts tv dn dh dw dk de dx dt ps pd ks kq ss sc sn wm wb wr wp wt aw ak av ap an aq al ++ M).set (zda d + 4) (zrn 6 g) = zK tl tp tb cu tk tq tm tw tc tr tg tt ts tv dn dh dw dk de (va_up dx d (g)) dt ps pd ks kq ss sc sn wm wb wr wp wt aw ak av ap an aq al ++ M := by
  rcases (show d = 0 ∨ d = 1 ∨ d = 2 ∨ d = 3 ∨ d = 4 ∨ d = 5 ∨ d = 6 ∨ d = 7 ∨ d = 8 ∨ d = 9 ∨ d = 10 ∨ d = 11 by omega) with rfl | rfl | rfl | rfl | rfl | rfl | rfl | rfl | rfl | rfl | rfl | rfl <;> exact zKS (Nat.le_of_ble_eq_true rfl) rfl
theorem ka_dx (hd : d < 12) {i : Nat} (hi : i < 6) : zaldI (zK tl tp tb cu tk tq tm tw tc tr tg tt ts tv dn dh dw dk de dx dt ps pd ks kq ss sc sn wm wb wr wp wt aw ak av ap an aq al ++ M) 20 (zda d + 4) (nI i) = some (nI ((dx d) i)) := zald_n (kc_dx hd) hi (by decide)
theorem ks_dx (hd : d < 12) {i x : Nat} (hi : i < 6) : zast (zK tl tp tb cu tk tq tm tw tc tr tg tt ts tv dn dh dw dk de dx dt ps pd ks kq ss sc sn wm wb wr wp wt aw ak av ap an aq al ++ M) 20 (zda d + 4) (nI i) (.int (nI x)) = some (zK tl tp tb cu tk tq tm tw tc tr tg tt ts tv dn dh dw dk de (va_up dx d (va_up (dx d) i x)) dt ps pd ks kq ss sc sn wm wb wr wp wt aw ak av ap an aq al ++ M) := zast_n (kc_dx hd) hi (by decide) (ke_dx hd)
theorem kc_dt (hd : d < 12) : (zK tl tp tb cu tk tq tm tw tc tr tg tt ts tv dn dh dw dk de dx dt ps pd ks kq ss sc sn wm wb wr wp wt aw ak av ap an aq al ++ M)[zda d + 5]? = some (zrn 30 (dt d)) := by
  rcases (show d = 0 ∨ d = 1 ∨ d = 2 ∨ d = 3 ∨ d = 4 ∨ d = 5 ∨ d = 6 ∨ d = 7 ∨ d = 8 ∨ d = 9 ∨ d = 10 ∨ d = 11 by omega) with rfl | rfl | rfl | rfl | rfl | rfl | rfl | rfl | rfl | rfl | rfl | rfl <;> exact zKM rfl
theorem ke_dt (hd : d < 12) {g : Nat → Nat} : (zK tl tp tb cu tk tq tm tw tc tr tg tt ts tv dn dh dw dk de dx dt ps pd ks kq ss sc sn wm wb wr wp wt aw ak av ap an aq al ++ M).set (zda d + 5) (zrn 30 g) = zK tl tp tb cu tk tq tm tw tc tr tg tt ts tv dn dh dw dk de dx (va_up dt d (g)) ps pd ks kq ss sc sn wm wb wr wp wt aw ak av ap an aq al ++ M := by
  rcases (show d = 0 ∨ d = 1 ∨ d = 2 ∨ d = 3 ∨ d = 4 ∨ d = 5 ∨ d = 6 ∨ d = 7 ∨ d = 8 ∨ d = 9 ∨ d = 10 ∨ d = 11 by omega) with rfl | rfl | rfl | rfl | rfl | rfl | rfl | rfl | rfl | rfl | rfl | rfl <;> exact zKS (Nat.le_of_ble_eq_true rfl) rfl
theorem ka_dt (hd : d < 12) {i : Nat} (hi : i < 30) : zaldI (zK tl tp tb cu tk tq tm tw tc tr tg tt ts tv dn dh dw dk de dx dt ps pd ks kq ss sc sn wm wb wr wp wt aw ak av ap an aq al ++ M) 20 (zda d + 5) (nI i) = some (nI ((dt d) i)) := zald_n (kc_dt hd) hi (by decide)
theorem ks_dt (hd : d < 12) {i x : Nat} (hi : i < 30) : zast (zK tl tp tb cu tk tq tm tw tc tr tg tt ts tv dn dh dw dk de dx dt ps pd ks kq ss sc sn wm wb wr wp wt aw ak av ap an aq al ++ M) 20 (zda d + 5) (nI i) (.int (nI x)) = some (zK tl tp tb cu tk tq tm tw tc tr tg tt ts tv dn dh dw dk de dx (va_up dt d (va_up (dt d) i x)) ps pd ks kq ss sc sn wm wb wr wp wt aw ak av ap an aq al ++ M) := zast_n (kc_dt hd) hi (by decide) (ke_dt hd)
theorem kc_past : (zK tl tp tb cu tk tq tm tw tc tr tg tt ts tv dn dh dw dk de dx dt ps pd ks kq ss sc sn wm wb wr wp wt aw ak av ap an aq al ++ M)[27]? = some ((2, [.ref 28, .int (nI ps)])) := zKM rfl
theorem ke_past_1 {x : Nat} : (zK tl tp tb cu tk tq tm tw tc tr tg tt ts tv dn dh dw dk de dx dt ps pd ks kq ss sc sn wm wb wr wp wt aw ak av ap an aq al ++ M).set (27) ((2, [.ref 28, .int (nI x)])) = zK tl tp tb cu tk tq tm tw tc tr tg tt ts tv dn dh dw dk de dx dt (x) pd ks kq ss sc sn wm wb wr wp wt aw ak av ap an aq al ++ M := zKS (Nat.le_of_ble_eq_true rfl) rfl
theorem kg_past_0 : zget (zK tl tp tb cu tk tq tm tw tc tr tg tt ts tv dn dh dw dk de dx dt ps pd ks kq ss sc sn wm wb wr wp wt aw ak av ap an aq al ++ M) (27) 2 0 = some (.ref 28) := zget_of (kc_past) rfl
theorem kg_past_1 : zget (zK tl tp tb cu tk tq tm tw tc tr tg tt ts tv dn dh dw dk de dx dt ps pd ks kq ss sc sn wm wb wr wp wt aw ak av ap an aq al ++ M) (27) 2 1 = some (.int (nI ps)) := zget_of (kc_past) rfl
theorem kp_past_1 {x : Nat} : zput (zK tl tp tb cu tk tq tm tw tc tr tg tt ts tv dn dh dw dk de dx dt ps pd ks kq ss sc sn wm wb wr wp wt aw ak av ap an aq al ++ M) (27) 2 1 (.int (nI x)) = some (zK tl tp tb cu tk tq tm tw tc tr tg tt ts tv dn dh dw dk de dx dt (x) pd ks kq ss sc sn wm wb wr wp wt aw ak av ap an aq al ++ M) := zput_of (kc_past) (Nat.le_of_ble_eq_true rfl) rfl (ke_past_1)
theorem kt_past : ztag (zK tl tp tb cu tk tq tm tw tc tr tg tt ts tv dn dh dw dk de dx dt ps pd ks kq ss sc sn wm wb wr wp wt aw ak av ap an aq al ++ M) (27) = some 2 := ztag_of (kc_past)
theorem kc_kept : (zK tl tp tb cu tk tq tm tw tc tr tg tt ts tv dn dh dw dk de dx dt ps pd ks kq ss sc sn wm wb wr wp wt aw ak av ap an aq al ++ M)[77]? = some ((2, [.ref 78, .int (nI ks)])) := zKM rfl
theorem ke_kept_1 {x : Nat} : (zK tl tp tb cu tk tq tm tw tc tr tg tt ts tv dn dh dw dk de dx dt ps pd ks kq ss sc sn wm wb wr wp wt aw ak av ap an aq al ++ M).set (77) ((2, [.ref 78, .int (nI x)])) = zK tl tp tb cu tk tq tm tw tc tr tg tt ts tv dn dh dw dk de dx dt ps pd (x) kq ss sc sn wm wb wr wp wt aw ak av ap an aq al ++ M := zKS (Nat.le_of_ble_eq_true rfl) rfl
theorem kg_kept_0 : zget (zK tl tp tb cu tk tq tm tw tc tr tg tt ts tv dn dh dw dk de dx dt ps pd ks kq ss sc sn wm wb wr wp wt aw ak av ap an aq al ++ M) (77) 2 0 = some (.ref 78) := zget_of (kc_kept) rfl
theorem kg_kept_1 : zget (zK tl tp tb cu tk tq tm tw tc tr tg tt ts tv dn dh dw dk de dx dt ps pd ks kq ss sc sn wm wb wr wp wt aw ak av ap an aq al ++ M) (77) 2 1 = some (.int (nI ks)) := zget_of (kc_kept) rfl
theorem kp_kept_1 {x : Nat} : zput (zK tl tp tb cu tk tq tm tw tc tr tg tt ts tv dn dh dw dk de dx dt ps pd ks kq ss sc sn wm wb wr wp wt aw ak av ap an aq al ++ M) (77) 2 1 (.int (nI x)) = some (zK tl tp tb cu tk tq tm tw tc tr tg tt ts tv dn dh dw dk de dx dt ps pd (x) kq ss sc sn wm wb wr wp wt aw ak av ap an aq al ++ M) := zput_of (kc_kept) (Nat.le_of_ble_eq_true rfl) rfl (ke_kept_1)
theorem kt_kept : ztag (zK tl tp tb cu tk tq tm tw tc tr tg tt ts tv dn dh dw dk de dx dt ps pd ks kq ss sc sn wm wb wr wp wt aw ak av ap an aq al ++ M) (77) = some 2 := ztag_of (kc_kept)
theorem kc_pd : (zK tl tp tb cu tk tq tm tw tc tr tg tt ts tv dn dh dw dk de dx dt ps pd ks kq ss sc sn wm wb wr wp wt aw ak av ap an aq al ++ M)[28]? = some (zra 8 (fun j => zda (pd j))) := zKM rfl
theorem ke_pd {g : Nat → Nat} : (zK tl tp tb cu tk tq tm tw tc tr tg tt ts tv dn dh dw dk de dx dt ps pd ks kq ss sc sn wm wb wr wp wt aw ak av ap an aq al ++ M).set (28) (zra 8 (fun j => zda (g j))) = zK tl tp tb cu tk tq tm tw tc tr tg tt ts tv dn dh dw dk de dx dt ps (g) ks kq ss sc sn wm wb wr wp wt aw ak av ap an aq al ++ M := zKS (Nat.le_of_ble_eq_true rfl) rfl
theorem ka_pd {i : Nat} (hi : i < 8) : zaldA (zK tl tp tb cu tk tq tm tw tc tr tg tt ts tv dn dh dw dk de dx dt ps pd ks kq ss sc sn wm wb wr wp wt aw ak av ap an aq al ++ M) 28 (nI i) = some (zda (pd i)) := zald_a kc_pd hi (by decide)
theorem zup_da_pd {g : Nat → Nat} {i x : Nat} : va_up (fun j => zda (g j)) i (zda x) = fun j => zda (va_up g i x j) := by funext j; unfold va_up; split <;> rfl
theorem ks_pd {i x : Nat} (hi : i < 8) : zast (zK tl tp tb cu tk tq tm tw tc tr tg tt ts tv dn dh dw dk de dx dt ps pd ks kq ss sc sn wm wb wr wp wt aw ak av ap an aq al ++ M) 22 28 (nI i) (.ref (zda x)) = some (zK tl tp tb cu tk tq tm tw tc tr tg tt ts tv dn dh dw dk de dx dt ps (va_up pd i x) ks kq ss sc sn wm wb wr wp wt aw ak av ap an aq al ++ M) := zast_a kc_pd hi (by decide) (by rw [zup_da_pd]; exact ke_pd)
theorem kl_pd : zaln (zK tl tp tb cu tk tq tm tw tc tr tg tt ts tv dn dh dw dk de dx dt ps pd ks kq ss sc sn wm wb wr wp wt aw ak av ap an aq al ++ M) 28 = some 8 := zaln_a kc_pd
theorem kc_kq : (zK tl tp tb cu tk tq tm tw tc tr tg tt ts tv dn dh dw dk de dx dt ps pd ks kq ss sc sn wm wb wr wp wt aw ak av ap an aq al ++ M)[78]? = some (zra 2 (fun j => zda (kq j))) := zKM rfl
theorem ke_kq {g : Nat → Nat} : (zK tl tp tb cu tk tq tm tw tc tr tg tt ts tv dn dh dw dk de dx dt ps pd ks kq ss sc sn wm wb wr wp wt aw ak av ap an aq al ++ M).set (78) (zra 2 (fun j => zda (g j))) = zK tl tp tb cu tk tq tm tw tc tr tg tt ts tv dn dh dw dk de dx dt ps pd ks (g) ss sc sn wm wb wr wp wt aw ak av ap an aq al ++ M := zKS (Nat.le_of_ble_eq_true rfl) rfl
theorem ka_kq {i : Nat} (hi : i < 2) : zaldA (zK tl tp tb cu tk tq tm tw tc tr tg tt ts tv dn dh dw dk de dx dt ps pd ks kq ss sc sn wm wb wr wp wt aw ak av ap an aq al ++ M) 78 (nI i) = some (zda (kq i)) := zald_a kc_kq hi (by decide)
theorem zup_da_kq {g : Nat → Nat} {i x : Nat} : va_up (fun j => zda (g j)) i (zda x) = fun j => zda (va_up g i x j) := by funext j; unfold va_up; split <;> rfl
theorem ks_kq {i x : Nat} (hi : i < 2) : zast (zK tl tp tb cu tk tq tm tw tc tr tg tt ts tv dn dh dw dk de dx dt ps pd ks kq ss sc sn wm wb wr wp wt aw ak av ap an aq al ++ M) 22 78 (nI i) (.ref (zda x)) = some (zK tl tp tb cu tk tq tm tw tc tr tg tt ts tv dn dh dw dk de dx dt ps pd ks (va_up kq i x) ss sc sn wm wb wr wp wt aw ak av ap an aq al ++ M) := zast_a kc_kq hi (by decide) (by rw [zup_da_kq]; exact ke_kq)
theorem kl_kq : zaln (zK tl tp tb cu tk tq tm tw tc tr tg tt ts tv dn dh dw dk de dx dt ps pd ks kq ss sc sn wm wb wr wp wt aw ak av ap an aq al ++ M) 78 = some 2 := zaln_a kc_kq
theorem kc_sight : (zK tl tp tb cu tk tq tm tw tc tr tg tt ts tv dn dh dw dk de dx dt ps pd ks kq ss sc sn wm wb wr wp wt aw ak av ap an aq al ++ M)[91]? = some ((3, [.ref 92, .ref 93, .int (nI ss)])) := zKM rfl
theorem ke_sight_2 {x : Nat} : (zK tl tp tb cu tk tq tm tw tc tr tg tt ts tv dn dh dw dk de dx dt ps pd ks kq ss sc sn wm wb wr wp wt aw ak av ap an aq al ++ M).set (91) ((3, [.ref 92, .ref 93, .int (nI x)])) = zK tl tp tb cu tk tq tm tw tc tr tg tt ts tv dn dh dw dk de dx dt ps pd ks kq (x) sc sn wm wb wr wp wt aw ak av ap an aq al ++ M := zKS (Nat.le_of_ble_eq_true rfl) rfl
theorem kg_sight_0 : zget (zK tl tp tb cu tk tq tm tw tc tr tg tt ts tv dn dh dw dk de dx dt ps pd ks kq ss sc sn wm wb wr wp wt aw ak av ap an aq al ++ M) (91) 3 0 = some (.ref 92) := zget_of (kc_sight) rfl
theorem kg_sight_1 : zget (zK tl tp tb cu tk tq tm tw tc tr tg tt ts tv dn dh dw dk de dx dt ps pd ks kq ss sc sn wm wb wr wp wt aw ak av ap an aq al ++ M) (91) 3 1 = some (.ref 93) := zget_of (kc_sight) rfl
theorem kg_sight_2 : zget (zK tl tp tb cu tk tq tm tw tc tr tg tt ts tv dn dh dw dk de dx dt ps pd ks kq ss sc sn wm wb wr wp wt aw ak av ap an aq al ++ M) (91) 3 2 = some (.int (nI ss)) := zget_of (kc_sight) rfl
theorem kp_sight_2 {x : Nat} : zput (zK tl tp tb cu tk tq tm tw tc tr tg tt ts tv dn dh dw dk de dx dt ps pd ks kq ss sc sn wm wb wr wp wt aw ak av ap an aq al ++ M) (91) 3 2 (.int (nI x)) = some (zK tl tp tb cu tk tq tm tw tc tr tg tt ts tv dn dh dw dk de dx dt ps pd ks kq (x) sc sn wm wb wr wp wt aw ak av ap an aq al ++ M) := zput_of (kc_sight) (Nat.le_of_ble_eq_true rfl) rfl (ke_sight_2)
theorem kt_sight : ztag (zK tl tp tb cu tk tq tm tw tc tr tg tt ts tv dn dh dw dk de dx dt ps pd ks kq ss sc sn wm wb wr wp wt aw ak av ap an aq al ++ M) (91) = some 3 := ztag_of (kc_sight)
theorem kc_sc : (zK tl tp tb cu tk tq tm tw tc tr tg tt ts tv dn dh dw dk de dx dt ps pd ks kq ss sc sn wm wb wr wp wt aw ak av ap an aq al ++ M)[92]? = some (zrn 6 sc) := zKM rfl
theorem ke_sc {g : Nat → Nat} : (zK tl tp tb cu tk tq tm tw tc tr tg tt ts tv dn dh dw dk de dx dt ps pd ks kq ss sc sn wm wb wr wp wt aw ak av ap an aq al ++ M).set (92) (zrn 6 g) = zK tl tp tb cu tk tq tm tw tc tr tg tt ts tv dn dh dw dk de dx dt ps pd ks kq ss (g) sn wm wb wr wp wt aw ak av ap an aq al ++ M := zKS (Nat.le_of_ble_eq_true rfl) rfl
theorem ka_sc {i : Nat} (hi : i < 6) : zaldI (zK tl tp tb cu tk tq tm tw tc tr tg tt ts tv dn dh dw dk de dx dt ps pd ks kq ss sc sn wm wb wr wp wt aw ak av ap an aq al ++ M) 20 (92) (nI i) = some (nI (sc i)) := zald_n (kc_sc) hi (by decide)
theorem ks_sc {i x : Nat} (hi : i < 6) : zast (zK tl tp tb cu tk tq tm tw tc tr tg tt ts tv dn dh dw dk de dx dt ps pd ks kq ss sc sn wm wb wr wp wt aw ak av ap an aq al ++ M) 20 (92) (nI i) (.int (nI x)) = some (zK tl tp tb cu tk tq tm tw tc tr tg tt ts tv dn dh dw dk de dx dt ps pd ks kq ss (va_up sc i x) sn wm wb wr wp wt aw ak av ap an aq al ++ M) := zast_n (kc_sc) hi (by decide) (ke_sc)
theorem kc_sn : (zK tl tp tb cu tk tq tm tw tc tr tg tt ts tv dn dh dw dk de dx dt ps pd ks kq ss sc sn wm wb wr wp wt aw ak av ap an aq al ++ M)[93]? = some (zrn 6 sn) := zKM rfl
theorem ke_sn {g : Nat → Nat} : (zK tl tp tb cu tk tq tm tw tc tr tg tt ts tv dn dh dw dk de dx dt ps pd ks kq ss sc sn wm wb wr wp wt aw ak av ap an aq al ++ M).set (93) (zrn 6 g) = zK tl tp tb cu tk tq tm tw tc tr tg tt ts tv dn dh dw dk de dx dt ps pd ks kq ss sc (g) wm wb wr wp wt aw ak av ap an aq al ++ M := zKS (Nat.le_of_ble_eq_true rfl) rfl
theorem ka_sn {i : Nat} (hi : i < 6) : zaldI (zK tl tp tb cu tk tq tm tw tc tr tg tt ts tv dn dh dw dk de dx dt ps pd ks kq ss sc sn wm wb wr wp wt aw ak av ap an aq al ++ M) 20 (93) (nI i) = some (nI (sn i)) := zald_n (kc_sn) hi (by decide)
theorem ks_sn {i x : Nat} (hi : i < 6) : zast (zK tl tp tb cu tk tq tm tw tc tr tg tt ts tv dn dh dw dk de dx dt ps pd ks kq ss sc sn wm wb wr wp wt aw ak av ap an aq al ++ M) 20 (93) (nI i) (.int (nI x)) = some (zK tl tp tb cu tk tq tm tw tc tr tg tt ts tv dn dh dw dk de dx dt ps pd ks kq ss sc (va_up sn i x) wm wb wr wp wt aw ak av ap an aq al ++ M) := zast_n (kc_sn) hi (by decide) (ke_sn)
theorem kc_ways : (zK tl tp tb cu tk tq tm tw tc tr tg tt ts tv dn dh dw dk de dx dt ps pd ks kq ss sc sn wm wb wr wp wt aw ak av ap an aq al ++ M)[94]? = some ((6, [.ref 95, .ref 96, .ref 97, .int (nI wp), .int (nI wt)])) := zKM rfl
theorem ke_ways_3 {x : Nat} : (zK tl tp tb cu tk tq tm tw tc tr tg tt ts tv dn dh dw dk de dx dt ps pd ks kq ss sc sn wm wb wr wp wt aw ak av ap an aq al ++ M).set (94) ((6, [.ref 95, .ref 96, .ref 97, .int (nI x), .int (nI wt)])) = zK tl tp tb cu tk tq tm tw tc tr tg tt ts tv dn dh dw dk de dx dt ps pd ks kq ss sc sn wm wb wr (x) wt aw ak av ap an aq al ++ M := zKS (Nat.le_of_ble_eq_true rfl) rfl
theorem ke_ways_4 {x : Nat} : (zK tl tp tb cu tk tq tm tw tc tr tg tt ts tv dn dh dw dk de dx dt ps pd ks kq ss sc sn wm wb wr wp wt aw ak av ap an aq al ++ M).set (94) ((6, [.ref 95, .ref 96, .ref 97, .int (nI wp), .int (nI x)])) = zK tl tp tb cu tk tq tm tw tc tr tg tt ts tv dn dh dw dk de dx dt ps pd ks kq ss sc sn wm wb wr wp (x) aw ak av ap an aq al ++ M := zKS (Nat.le_of_ble_eq_true rfl) rfl
theorem kg_ways_0 : zget (zK tl tp tb cu tk tq tm tw tc tr tg tt ts tv dn dh dw dk de dx dt ps pd ks kq ss sc sn wm wb wr wp wt aw ak av ap an aq al ++ M) (94) 6 0 = some (.ref 95) := zget_of (kc_ways) rfl
theorem kg_ways_1 : zget (zK tl tp tb cu tk tq tm tw tc tr tg tt ts tv dn dh dw dk de dx dt ps pd ks kq ss sc sn wm wb wr wp wt aw ak av ap an aq al ++ M) (94) 6 1 = some (.ref 96) := zget_of (kc_ways) rfl
theorem kg_ways_2 : zget (zK tl tp tb cu tk tq tm tw tc tr tg tt ts tv dn dh dw dk de dx dt ps pd ks kq ss sc sn wm wb wr wp wt aw ak av ap an aq al ++ M) (94) 6 2 = some (.ref 97) := zget_of (kc_ways) rfl
theorem kg_ways_3 : zget (zK tl tp tb cu tk tq tm tw tc tr tg tt ts tv dn dh dw dk de dx dt ps pd ks kq ss sc sn wm wb wr wp wt aw ak av ap an aq al ++ M) (94) 6 3 = some (.int (nI wp)) := zget_of (kc_ways) rfl
theorem kg_ways_4 : zget (zK tl tp tb cu tk tq tm tw tc tr tg tt ts tv dn dh dw dk de dx dt ps pd ks kq ss sc sn wm wb wr wp wt aw ak av ap an aq al ++ M) (94) 6 4 = some (.int (nI wt)) := zget_of (kc_ways) rfl
theorem kp_ways_3 {x : Nat} : zput (zK tl tp tb cu tk tq tm tw tc tr tg tt ts tv dn dh dw dk de dx dt ps pd ks kq ss sc sn wm wb wr wp wt aw ak av ap an aq al ++ M) (94) 6 3 (.int (nI x)) = some (zK tl tp tb cu tk tq tm tw tc tr tg tt ts tv dn dh dw dk de dx dt ps pd ks kq ss sc sn wm wb wr (x) wt aw ak av ap an aq al ++ M) := zput_of (kc_ways) (Nat.le_of_ble_eq_true rfl) rfl (ke_ways_3)
theorem kp_ways_4 {x : Nat} : zput (zK tl tp tb cu tk tq tm tw tc tr tg tt ts tv dn dh dw dk de dx dt ps pd ks kq ss sc sn wm wb wr wp wt aw ak av ap an aq al ++ M) (94) 6 4 (.int (nI x)) = some (zK tl tp tb cu tk tq tm tw tc tr tg tt ts tv dn dh dw dk de dx dt ps pd ks kq ss sc sn wm wb wr wp (x) aw ak av ap an aq al ++ M) := zput_of (kc_ways) (Nat.le_of_ble_eq_true rfl) rfl (ke_ways_4)
theorem kt_ways : ztag (zK tl tp tb cu tk tq tm tw tc tr tg tt ts tv dn dh dw dk de dx dt ps pd ks kq ss sc sn wm wb wr wp wt aw ak av ap an aq al ++ M) (94) = some 6 := ztag_of (kc_ways)
theorem kc_wm : (zK tl tp tb cu tk tq tm tw tc tr tg tt ts tv dn dh dw dk de dx dt ps pd ks kq ss sc sn wm wb wr wp wt aw ak av ap an aq al ++ M)[95]? = some (zrn 6 wm) := zKM rfl
theorem ke_wm {g : Nat → Nat} : (zK tl tp tb cu tk tq tm tw tc tr tg tt ts tv dn dh dw dk de dx dt ps pd ks kq ss sc sn wm wb wr wp wt aw ak av ap an aq al ++ M).set (95) (zrn 6 g) = zK tl tp tb cu tk tq tm tw tc tr tg tt ts tv dn dh dw dk de dx dt ps pd ks kq ss sc sn (g) wb wr wp wt aw ak av ap an aq al ++ M := zKS (Nat.le_of_ble_eq_true rfl) rfl
theorem ka_wm {i : Nat} (hi : i < 6) : zaldI (zK tl tp tb cu tk tq tm tw tc tr tg tt ts tv dn dh dw dk de dx dt ps pd ks kq ss sc sn wm wb wr wp wt aw ak av ap an aq al ++ M) 20 (95) (nI i) = some (nI (wm i)) := zald_n (kc_wm) hi (by decide)
theorem ks_wm {i x : Nat} (hi : i < 6) : zast (zK tl tp tb cu tk tq tm tw tc tr tg tt ts tv dn dh dw dk de dx dt ps pd ks kq ss sc sn wm wb wr wp wt aw ak av ap an aq al ++ M) 20 (95) (nI i) (.int (nI x)) = some (zK tl tp tb cu tk tq tm tw tc tr tg tt ts tv dn dh dw dk de dx dt ps pd ks kq ss sc sn (va_up wm i x) wb wr wp wt aw ak av ap an aq al ++ M) := zast_n (kc_wm) hi (by decide) (ke_wm)
theorem kc_wb : (zK tl tp tb cu tk tq tm tw tc tr tg tt ts tv dn dh dw dk de dx dt ps pd ks kq ss sc sn wm wb wr wp wt aw ak av ap an aq al ++ M)[96]? = some (zrn 6 wb) := zKM rfl
theorem ke_wb {g : Nat → Nat} : (zK tl tp tb cu tk tq tm tw tc tr tg tt ts tv dn dh dw dk de dx dt ps pd ks kq ss sc sn wm wb wr wp wt aw ak av ap an aq al ++ M).set (96) (zrn 6 g) = zK tl tp tb cu tk tq tm tw tc tr tg tt ts tv dn dh dw dk de dx dt ps pd ks kq ss sc sn wm (g) wr wp wt aw ak av ap an aq al ++ M := zKS (Nat.le_of_ble_eq_true rfl) rfl
theorem ka_wb {i : Nat} (hi : i < 6) : zaldI (zK tl tp tb cu tk tq tm tw tc tr tg tt ts tv dn dh dw dk de dx dt ps pd ks kq ss sc sn wm wb wr wp wt aw ak av ap an aq al ++ M) 20 (96) (nI i) = some (nI (wb i)) := zald_n (kc_wb) hi (by decide)
theorem ks_wb {i x : Nat} (hi : i < 6) : zast (zK tl tp tb cu tk tq tm tw tc tr tg tt ts tv dn dh dw dk de dx dt ps pd ks kq ss sc sn wm wb wr wp wt aw ak av ap an aq al ++ M) 20 (96) (nI i) (.int (nI x)) = some (zK tl tp tb cu tk tq tm tw tc tr tg tt ts tv dn dh dw dk de dx dt ps pd ks kq ss sc sn wm (va_up wb i x) wr wp wt aw ak av ap an aq al ++ M) := zast_n (kc_wb) hi (by decide) (ke_wb)
theorem kc_wr : (zK tl tp tb cu tk tq tm tw tc tr tg tt ts tv dn dh dw dk de dx dt ps pd ks kq ss sc sn wm wb wr wp wt aw ak av ap an aq al ++ M)[97]? = some (zrn 36 wr) := zKM rfl
theorem ke_wr {g : Nat → Nat} : (zK tl tp tb cu tk tq tm tw tc tr tg tt ts tv dn dh dw dk de dx dt ps pd ks kq ss sc sn wm wb wr wp wt aw ak av ap an aq al ++ M).set (97) (zrn 36 g) = zK tl tp tb cu tk tq tm tw tc tr tg tt ts tv dn dh dw dk de dx dt ps pd ks kq ss sc sn wm wb (g) wp wt aw ak av ap an aq al ++ M := zKS (Nat.le_of_ble_eq_true rfl) rfl
theorem ka_wr {i : Nat} (hi : i < 36) : zaldI (zK tl tp tb cu tk tq tm tw tc tr tg tt ts tv dn dh dw dk de dx dt ps pd ks kq ss sc sn wm wb wr wp wt aw ak av ap an aq al ++ M) 20 (97) (nI i) = some (nI (wr i)) := zald_n (kc_wr) hi (by decide)
theorem ks_wr {i x : Nat} (hi : i < 36) : zast (zK tl tp tb cu tk tq tm tw tc tr tg tt ts tv dn dh dw dk de dx dt ps pd ks kq ss sc sn wm wb wr wp wt aw ak av ap an aq al ++ M) 20 (97) (nI i) (.int (nI x)) = some (zK tl tp tb cu tk tq tm tw tc tr tg tt ts tv dn dh dw dk de dx dt ps pd ks kq ss sc sn wm wb (va_up wr i x) wp wt aw ak av ap an aq al ++ M) := zast_n (kc_wr) hi (by decide) (ke_wr)
theorem kc_alley : (zK tl tp tb cu tk tq tm tw tc tr tg tt ts tv dn dh dw dk de dx dt ps pd ks kq ss sc sn wm wb wr wp wt aw ak av ap an aq al ++ M)[98]? = some ((0, [.ref 99, .ref 100, .ref 101, .ref 102, .ref 103, .int (nI aq), .int (nI al)])) := zKM rfl
theorem ke_alley_5 {x : Nat} : (zK tl tp tb cu tk tq tm tw tc tr tg tt ts tv dn dh dw dk de dx dt ps pd ks kq ss sc sn wm wb wr wp wt aw ak av ap an aq al ++ M).set (98) ((0, [.ref 99, .ref 100, .ref 101, .ref 102, .ref 103, .int (nI x), .int (nI al)])) = zK tl tp tb cu tk tq tm tw tc tr tg tt ts tv dn dh dw dk de dx dt ps pd ks kq ss sc sn wm wb wr wp wt aw ak av ap an (x) al ++ M := zKS (Nat.le_of_ble_eq_true rfl) rfl
theorem ke_alley_6 {x : Nat} : (zK tl tp tb cu tk tq tm tw tc tr tg tt ts tv dn dh dw dk de dx dt ps pd ks kq ss sc sn wm wb wr wp wt aw ak av ap an aq al ++ M).set (98) ((0, [.ref 99, .ref 100, .ref 101, .ref 102, .ref 103, .int (nI aq), .int (nI x)])) = zK tl tp tb cu tk tq tm tw tc tr tg tt ts tv dn dh dw dk de dx dt ps pd ks kq ss sc sn wm wb wr wp wt aw ak av ap an aq (x) ++ M := zKS (Nat.le_of_ble_eq_true rfl) rfl
theorem kg_alley_0 : zget (zK tl tp tb cu tk tq tm tw tc tr tg tt ts tv dn dh dw dk de dx dt ps pd ks kq ss sc sn wm wb wr wp wt aw ak av ap an aq al ++ M) (98) 0 0 = some (.ref 99) := zget_of (kc_alley) rfl
theorem kg_alley_1 : zget (zK tl tp tb cu tk tq tm tw tc tr tg tt ts tv dn dh dw dk de dx dt ps pd ks kq ss sc sn wm wb wr wp wt aw ak av ap an aq al ++ M) (98) 0 1 = some (.ref 100) := zget_of (kc_alley) rfl
theorem kg_alley_2 : zget (zK tl tp tb cu tk tq tm tw tc tr tg tt ts tv dn dh dw dk de dx dt ps pd ks kq ss sc sn wm wb wr wp wt aw ak av ap an aq al ++ M) (98) 0 2 = some (.ref 101) := zget_of (kc_alley) rfl
theorem kg_alley_3 : zget (zK tl tp tb cu tk tq tm tw tc tr tg tt ts tv dn dh dw dk de dx dt ps pd ks kq ss sc sn wm wb wr wp wt aw ak av ap an aq al ++ M) (98) 0 3 = some (.ref 102) := zget_of (kc_alley) rfl
theorem kg_alley_4 : zget (zK tl tp tb cu tk tq tm tw tc tr tg tt ts tv dn dh dw dk de dx dt ps pd ks kq ss sc sn wm wb wr wp wt aw ak av ap an aq al ++ M) (98) 0 4 = some (.ref 103) := zget_of (kc_alley) rfl
theorem kg_alley_5 : zget (zK tl tp tb cu tk tq tm tw tc tr tg tt ts tv dn dh dw dk de dx dt ps pd ks kq ss sc sn wm wb wr wp wt aw ak av ap an aq al ++ M) (98) 0 5 = some (.int (nI aq)) := zget_of (kc_alley) rfl
theorem kg_alley_6 : zget (zK tl tp tb cu tk tq tm tw tc tr tg tt ts tv dn dh dw dk de dx dt ps pd ks kq ss sc sn wm wb wr wp wt aw ak av ap an aq al ++ M) (98) 0 6 = some (.int (nI al)) := zget_of (kc_alley) rfl
theorem kp_alley_5 {x : Nat} : zput (zK tl tp tb cu tk tq tm tw tc tr tg tt ts tv dn dh dw dk de dx dt ps pd ks kq ss sc sn wm wb wr wp wt aw ak av ap an aq al ++ M) (98) 0 5 (.int (nI x)) = some (zK tl tp tb cu tk tq tm tw tc tr tg tt ts tv dn dh dw dk de dx dt ps pd ks kq ss sc sn wm wb wr wp wt aw ak av ap an (x) al ++ M) := zput_of (kc_alley) (Nat.le_of_ble_eq_true rfl) rfl (ke_alley_5)
theorem kp_alley_6 {x : Nat} : zput (zK tl tp tb cu tk tq tm tw tc tr tg tt ts tv dn dh dw dk de dx dt ps pd ks kq ss sc sn wm wb wr wp wt aw ak av ap an aq al ++ M) (98) 0 6 (.int (nI x)) = some (zK tl tp tb cu tk tq tm tw tc tr tg tt ts tv dn dh dw dk de dx dt ps pd ks kq ss sc sn wm wb wr wp wt aw ak av ap an aq (x) ++ M) := zput_of (kc_alley) (Nat.le_of_ble_eq_true rfl) rfl (ke_alley_6)
theorem kt_alley : ztag (zK tl tp tb cu tk tq tm tw tc tr tg tt ts tv dn dh dw dk de dx dt ps pd ks kq ss sc sn wm wb wr wp wt aw ak av ap an aq al ++ M) (98) = some 0 := ztag_of (kc_alley)
theorem kc_aw : (zK tl tp tb cu tk tq tm tw tc tr tg tt ts tv dn dh dw dk de dx dt ps pd ks kq ss sc sn wm wb wr wp wt aw ak av ap an aq al ++ M)[99]? = some (zrn 6 aw) := zKM rfl
theorem ke_aw {g : Nat → Nat} : (zK tl tp tb cu tk tq tm tw tc tr tg tt ts tv dn dh dw dk de dx dt ps pd ks kq ss sc sn wm wb wr wp wt aw ak av ap an aq al ++ M).set (99) (zrn 6 g) = zK tl tp tb cu tk tq tm tw tc tr tg tt ts tv dn dh dw dk de dx dt ps pd ks kq ss sc sn wm wb wr wp wt (g) ak av ap an aq al ++ M := zKS (Nat.le_of_ble_eq_true rfl) rfl
theorem ka_aw {i : Nat} (hi : i < 6) : zaldI (zK tl tp tb cu tk tq tm tw tc tr tg tt ts tv dn dh dw dk de dx dt ps pd ks kq ss sc sn wm wb wr wp wt aw ak av ap an aq al ++ M) 20 (99) (nI i) = some (nI (aw i)) := zald_n (kc_aw) hi (by decide)
theorem ks_aw {i x : Nat} (hi : i < 6) : zast (zK tl tp tb cu tk tq tm tw tc tr tg tt ts tv dn dh dw dk de dx dt ps pd ks kq ss sc sn wm wb wr wp wt aw ak av ap an aq al ++ M) 20 (99) (nI i) (.int (nI x)) = some (zK tl tp tb cu tk tq tm tw tc tr tg tt ts tv dn dh dw dk de dx dt ps pd ks kq ss sc sn wm wb wr wp wt (va_up aw i x) ak av ap an aq al ++ M) := zast_n (kc_aw) hi (by decide) (ke_aw)
theorem kc_ak : (zK tl tp tb cu tk tq tm tw tc tr tg tt ts tv dn dh dw dk de dx dt ps pd ks kq ss sc sn wm wb wr wp wt aw ak av ap an aq al ++ M)[100]? = some (zrn 6 ak) := zKM rfl
theorem ke_ak {g : Nat → Nat} : (zK tl tp tb cu tk tq tm tw tc tr tg tt ts tv dn dh dw dk de dx dt ps pd ks kq ss sc sn wm wb wr wp wt aw ak av ap an aq al ++ M).set (100) (zrn 6 g) = zK tl tp tb cu tk tq tm tw tc tr tg tt ts tv dn dh dw dk de dx dt ps pd ks kq ss sc sn wm wb wr wp wt aw (g) av ap an aq al ++ M := zKS (Nat.le_of_ble_eq_true rfl) rfl
theorem ka_ak {i : Nat} (hi : i < 6) : zaldI (zK tl tp tb cu tk tq tm tw tc tr tg tt ts tv dn dh dw dk de dx dt ps pd ks kq ss sc sn wm wb wr wp wt aw ak av ap an aq al ++ M) 20 (100) (nI i) = some (nI (ak i)) := zald_n (kc_ak) hi (by decide)
theorem ks_ak {i x : Nat} (hi : i < 6) : zast (zK tl tp tb cu tk tq tm tw tc tr tg tt ts tv dn dh dw dk de dx dt ps pd ks kq ss sc sn wm wb wr wp wt aw ak av ap an aq al ++ M) 20 (100) (nI i) (.int (nI x)) = some (zK tl tp tb cu tk tq tm tw tc tr tg tt ts tv dn dh dw dk de dx dt ps pd ks kq ss sc sn wm wb wr wp wt aw (va_up ak i x) av ap an aq al ++ M) := zast_n (kc_ak) hi (by decide) (ke_ak)
theorem kc_av : (zK tl tp tb cu tk tq tm tw tc tr tg tt ts tv dn dh dw dk de dx dt ps pd ks kq ss sc sn wm wb wr wp wt aw ak av ap an aq al ++ M)[101]? = some (zrn 30 av) := zKM rfl
theorem ke_av {g : Nat → Nat} : (zK tl tp tb cu tk tq tm tw tc tr tg tt ts tv dn dh dw dk de dx dt ps pd ks kq ss sc sn wm wb wr wp wt aw ak av ap an aq al ++ M).set (101) (zrn 30 g) = zK tl tp tb cu tk tq tm tw tc tr tg tt ts tv dn dh dw dk de dx dt ps pd ks kq ss sc sn wm wb wr wp wt aw ak (g) ap an aq al ++ M := zKS (Nat.le_of_ble_eq_true rfl) rfl
theorem ka_av {i : Nat} (hi : i < 30) : zaldI (zK tl tp tb cu tk tq tm tw tc tr tg tt ts tv dn dh dw dk de dx dt ps pd ks kq ss sc sn wm wb wr wp wt aw ak av ap an aq al ++ M) 20 (101) (nI i) = some (nI (av i)) := zald_n (kc_av) hi (by decide)
theorem ks_av {i x : Nat} (hi : i < 30) : zast (zK tl tp tb cu tk tq tm tw tc tr tg tt ts tv dn dh dw dk de dx dt ps pd ks kq ss sc sn wm wb wr wp wt aw ak av ap an aq al ++ M) 20 (101) (nI i) (.int (nI x)) = some (zK tl tp tb cu tk tq tm tw tc tr tg tt ts tv dn dh dw dk de dx dt ps pd ks kq ss sc sn wm wb wr wp wt aw ak (va_up av i x) ap an aq al ++ M) := zast_n (kc_av) hi (by decide) (ke_av)
theorem kc_ap : (zK tl tp tb cu tk tq tm tw tc tr tg tt ts tv dn dh dw dk de dx dt ps pd ks kq ss sc sn wm wb wr wp wt aw ak av ap an aq al ++ M)[102]? = some (zrn 6 ap) := zKM rfl
theorem ke_ap {g : Nat → Nat} : (zK tl tp tb cu tk tq tm tw tc tr tg tt ts tv dn dh dw dk de dx dt ps pd ks kq ss sc sn wm wb wr wp wt aw ak av ap an aq al ++ M).set (102) (zrn 6 g) = zK tl tp tb cu tk tq tm tw tc tr tg tt ts tv dn dh dw dk de dx dt ps pd ks kq ss sc sn wm wb wr wp wt aw ak av (g) an aq al ++ M := zKS (Nat.le_of_ble_eq_true rfl) rfl
theorem ka_ap {i : Nat} (hi : i < 6) : zaldI (zK tl tp tb cu tk tq tm tw tc tr tg tt ts tv dn dh dw dk de dx dt ps pd ks kq ss sc sn wm wb wr wp wt aw ak av ap an aq al ++ M) 20 (102) (nI i) = some (nI (ap i)) := zald_n (kc_ap) hi (by decide)
theorem ks_ap {i x : Nat} (hi : i < 6) : zast (zK tl tp tb cu tk tq tm tw tc tr tg tt ts tv dn dh dw dk de dx dt ps pd ks kq ss sc sn wm wb wr wp wt aw ak av ap an aq al ++ M) 20 (102) (nI i) (.int (nI x)) = some (zK tl tp tb cu tk tq tm tw tc tr tg tt ts tv dn dh dw dk de dx dt ps pd ks kq ss sc sn wm wb wr wp wt aw ak av (va_up ap i x) an aq al ++ M) := zast_n (kc_ap) hi (by decide) (ke_ap)
theorem kc_an : (zK tl tp tb cu tk tq tm tw tc tr tg tt ts tv dn dh dw dk de dx dt ps pd ks kq ss sc sn wm wb wr wp wt aw ak av ap an aq al ++ M)[103]? = some (zrn 6 an) := zKM rfl
theorem ke_an {g : Nat → Nat} : (zK tl tp tb cu tk tq tm tw tc tr tg tt ts tv dn dh dw dk de dx dt ps pd ks kq ss sc sn wm wb wr wp wt aw ak av ap an aq al ++ M).set (103) (zrn 6 g) = zK tl tp tb cu tk tq tm tw tc tr tg tt ts tv dn dh dw dk de dx dt ps pd ks kq ss sc sn wm wb wr wp wt aw ak av ap (g) aq al ++ M := zKS (Nat.le_of_ble_eq_true rfl) rfl
theorem ka_an {i : Nat} (hi : i < 6) : zaldI (zK tl tp tb cu tk tq tm tw tc tr tg tt ts tv dn dh dw dk de dx dt ps pd ks kq ss sc sn wm wb wr wp wt aw ak av ap an aq al ++ M) 20 (103) (nI i) = some (nI (an i)) := zald_n (kc_an) hi (by decide)
theorem ks_an {i x : Nat} (hi : i < 6) : zast (zK tl tp tb cu tk tq tm tw tc tr tg tt ts tv dn dh dw dk de dx dt ps pd ks kq ss sc sn wm wb wr wp wt aw ak av ap an aq al ++ M) 20 (103) (nI i) (.int (nI x)) = some (zK tl tp tb cu tk tq tm tw tc tr tg tt ts tv dn dh dw dk de dx dt ps pd ks kq ss sc sn wm wb wr wp wt aw ak av ap (va_up an i x) aq al ++ M) := zast_n (kc_an) hi (by decide) (ke_an)
theorem kl_tv (ht : t < 2) : zaln (zK tl tp tb cu tk tq tm tw tc tr tg tt ts tv dn dh dw dk de dx dt ps pd ks kq ss sc sn wm wb wr wp wt aw ak av ap an aq al ++ M) (zta t + 5) = some 30 := zaln_n (kc_tv ht)
theorem kl_dt (hd : d < 12) : zaln (zK tl tp tb cu tk tq tm tw tc tr tg tt ts tv dn dh dw dk de dx dt ps pd ks kq ss sc sn wm wb wr wp wt aw ak av ap an aq al ++ M) (zda d + 5) = some 30 := zaln_n (kc_dt hd)
theorem kl_dw (hd : d < 12) : zaln (zK tl tp tb cu tk tq tm tw tc tr tg tt ts tv dn dh dw dk de dx dt ps pd ks kq ss sc sn wm wb wr wp wt aw ak av ap an aq al ++ M) (zda d + 1) = some 6 := zaln_n (kc_dw hd)
theorem kl_dk (hd : d < 12) : zaln (zK tl tp tb cu tk tq tm tw tc tr tg tt ts tv dn dh dw dk de dx dt ps pd ks kq ss sc sn wm wb wr wp wt aw ak av ap an aq al ++ M) (zda d + 2) = some 6 := zaln_n (kc_dk hd)
theorem ky_dw {b : Nat} (hb : b < 12) (hd : d < 12) : zcpy (zK tl tp tb cu tk tq tm tw tc tr tg tt ts tv dn dh dw dk de dx dt ps pd ks kq ss sc sn wm wb wr wp wt aw ak av ap an aq al ++ M) (zda b + 1) (zda d + 1) 6 = some (zK tl tp tb cu tk tq tm tw tc tr tg tt ts tv dn dh (va_up dw d (dw b)) dk de dx dt ps pd ks kq ss sc sn wm wb wr wp wt aw ak av ap an aq al ++ M) := zcpy_n (kc_dw hb) (kc_dw hd) (ke_dw hd)
theorem ky_dk {b : Nat} (hb : b < 12) (hd : d < 12) : zcpy (zK tl tp tb cu tk tq tm tw tc tr tg tt ts tv dn dh dw dk de dx dt ps pd ks kq ss sc sn wm wb wr wp wt aw ak av ap an aq al ++ M) (zda b + 2) (zda d + 2) 6 = some (zK tl tp tb cu tk tq tm tw tc tr tg tt ts tv dn dh dw (va_up dk d (dk b)) de dx dt ps pd ks kq ss sc sn wm wb wr wp wt aw ak av ap an aq al ++ M) := zcpy_n (kc_dk hb) (kc_dk hd) (ke_dk hd)
theorem ky_de {b : Nat} (hb : b < 12) (hd : d < 12) : zcpy (zK tl tp tb cu tk tq tm tw tc tr tg tt ts tv dn dh dw dk de dx dt ps pd ks kq ss sc sn wm wb wr wp wt aw ak av ap an aq al ++ M) (zda b + 3) (zda d + 3) 6 = some (zK tl tp tb cu tk tq tm tw tc tr tg tt ts tv dn dh dw dk (va_up de d (de b)) dx dt ps pd ks kq ss sc sn wm wb wr wp wt aw ak av ap an aq al ++ M) := zcpy_n (kc_de hb) (kc_de hd) (ke_de hd)
theorem ky_dx {b : Nat} (hb : b < 12) (hd : d < 12) : zcpy (zK tl tp tb cu tk tq tm tw tc tr tg tt ts tv dn dh dw dk de dx dt ps pd ks kq ss sc sn wm wb wr wp wt aw ak av ap an aq al ++ M) (zda b + 4) (zda d + 4) 6 = some (zK tl tp tb cu tk tq tm tw tc tr tg tt ts tv dn dh dw dk de (va_up dx d (dx b)) dt ps pd ks kq ss sc sn wm wb wr wp wt aw ak av ap an aq al ++ M) := zcpy_n (kc_dx hb) (kc_dx hd) (ke_dx hd)
theorem ky_dt {b : Nat} (hb : b < 12) (hd : d < 12) : zcpy (zK tl tp tb cu tk tq tm tw tc tr tg tt ts tv dn dh dw dk de dx dt ps pd ks kq ss sc sn wm wb wr wp wt aw ak av ap an aq al ++ M) (zda b + 5) (zda d + 5) 30 = some (zK tl tp tb cu tk tq tm tw tc tr tg tt ts tv dn dh dw dk de dx (va_up dt d (dt b)) ps pd ks kq ss sc sn wm wb wr wp wt aw ak av ap an aq al ++ M) := zcpy_n (kc_dt hb) (kc_dt hd) (ke_dt hd)
theorem ky_aw (hd : d < 12) : zcpy (zK tl tp tb cu tk tq tm tw tc tr tg tt ts tv dn dh dw dk de dx dt ps pd ks kq ss sc sn wm wb wr wp wt aw ak av ap an aq al ++ M) (zda d + 1) 99 6 = some (zK tl tp tb cu tk tq tm tw tc tr tg tt ts tv dn dh dw dk de dx dt ps pd ks kq ss sc sn wm wb wr wp wt (dw d) ak av ap an aq al ++ M) := zcpy_n (kc_dw hd) kc_aw ke_aw
theorem ky_ak (hd : d < 12) : zcpy (zK tl tp tb cu tk tq tm tw tc tr tg tt ts tv dn dh dw dk de dx dt ps pd ks kq ss sc sn wm wb wr wp wt aw ak av ap an aq al ++ M) (zda d + 2) 100 6 = some (zK tl tp tb cu tk tq tm tw tc tr tg tt ts tv dn dh dw dk de dx dt ps pd ks kq ss sc sn wm wb wr wp wt aw (dk d) av ap an aq al ++ M) := zcpy_n (kc_dk hd) kc_ak ke_ak
theorem ky_av (ht : t < 2) : zcpy (zK tl tp tb cu tk tq tm tw tc tr tg tt ts tv dn dh dw dk de dx dt ps pd ks kq ss sc sn wm wb wr wp wt aw ak av ap an aq al ++ M) (zta t + 5) 101 30 = some (zK tl tp tb cu tk tq tm tw tc tr tg tt ts tv dn dh dw dk de dx dt ps pd ks kq ss sc sn wm wb wr wp wt aw ak (tv t) ap an aq al ++ M) := zcpy_n (kc_tv ht) kc_av ke_av
theorem ky_wb : zcpy (zK tl tp tb cu tk tq tm tw tc tr tg tt ts tv dn dh dw dk de dx dt ps pd ks kq ss sc sn wm wb wr wp wt aw ak av ap an aq al ++ M) 95 96 6 = some (zK tl tp tb cu tk tq tm tw tc tr tg tt ts tv dn dh dw dk de dx dt ps pd ks kq ss sc sn wm (wm) wr wp wt aw ak av ap an aq al ++ M) := zcpy_n kc_wm kc_wb ke_wb
end
