/-! ===== the simulation: values, cells, locals ===== -/
def zv (b B : Nat) (v : Value) : Value := match v with
  | .ref k => .ref (B + k)
  | .float _ => .ref b
  | v => v
def zi (v : Value) : Int32 := match v with
  | .int x => x
  | _ => 0
def zo (B : Nat) (v : Value) : Option Nat := match v with
  | .ref k => some (B + k)
  | _ => none
def zE (b B : Nat) (cI cB cD : ClassId) (c : ZC) : va_E :=
  if c.1 = 20 then .inl (cI, c.2.length, .inl (fun j => zi (c.2.getD j .null)))
  else if c.1 = 21 then .inl (cB, c.2.length, .inl (fun j => zi (c.2.getD j .null)))
  else if c.1 = 22 then .inl (cD, c.2.length, .inr (.inr (.inr (.inr (fun j => zo B (c.2.getD j .null))))))
  else .inr (c.1, c.2.map (zv b B))
def zws (b B : Nat) (cI cB cD : ClassId) (h : ZH) : va_W := h.zipIdx.map (fun q => (B + q.2, zE b B cI cB cD q.1))
def zsz (h : ZH) : Nat := (h.map (fun c => c.2.length)).sum
section ZW
variable {b B : Nat} {cI cB cD : ClassId} {h : ZH}
theorem zws_get (k : Nat) : (zws b B cI cB cD h)[k]? = (h[k]?).map (fun c => (B + k, zE b B cI cB cD c)) := by
  unfold zws
  rw [List.getElem?_map, List.getElem?_zipIdx]
  cases h[k]? <;> simp
theorem zws_len : (zws b B cI cB cD h).length = h.length := by simp [zws]
theorem zws_set {k : Nat} {c : ZC} : (zws b B cI cB cD h).set k (B + k, zE b B cI cB cD c) = zws b B cI cB cD (h.set k c) := by
  apply List.ext_getElem?
  intro j
  rw [zws_get, List.getElem?_set, List.getElem?_set, zws_get, zws_len]
  by_cases hjk : k = j
  · subst hjk
    by_cases hl : k < h.length <;> simp [hl]
  · simp [hjk]
theorem zws_app {c : ZC} : zws b B cI cB cD h ++ [(B + h.length, zE b B cI cB cD c)] = zws b B cI cB cD (h ++ [c]) := by
  apply List.ext_getElem?
  intro j
  rw [zws_get, List.getElem?_append, List.getElem?_append, zws_get, zws_len]
  by_cases hj : j < h.length
  · simp [hj]
  · rw [if_neg hj, if_neg hj]
    by_cases he : j = h.length
    · subst he; simp
    · rw [List.getElem?_eq_none (by simp; omega), List.getElem?_eq_none (by simp; omega)]; rfl
theorem zws_D : va_D (fun q => B ≤ q) (zws b B cI cB cD h) := by
  have key : ∀ (k : Nat) (q : Nat × va_E), (zws b B cI cB cD h)[k]? = some q → q.1 = B + k := by
    intro k q hq
    rw [zws_get] at hq
    cases hk : h[k]? with
    | none => rw [hk] at hq; cases hq
    | some c => rw [hk] at hq; cases hq; rfl
  refine ⟨fun i j p q hp hq he => ?_, fun k q hq => ?_⟩
  · have h1 := key i p hp
    have h2 := key j q hq
    omega
  · have h1 := key k q hq
    show B ≤ q.1
    omega
theorem zws_obj {a ci : Nat} {fs : List Value} (hci : ci < 9) (ha : h[a]? = some (ci, fs)) : (zws b B cI cB cD h)[a]? = some (B + a, .inr (ci, fs.map (zv b B))) := by
  rw [zws_get, ha]
  simp only [Option.map_some, zE]
  rw [if_neg (by omega), if_neg (by omega), if_neg (by omega)]
theorem zE_obj {ci : Nat} {fs : List Value} (hci : ci < 9) : zE b B cI cB cD (ci, fs) = .inr (ci, fs.map (zv b B)) := by
  simp only [zE]
  rw [if_neg (by omega), if_neg (by omega), if_neg (by omega)]
theorem zws_20 {a : Nat} {vs : List Value} (ha : h[a]? = some (20, vs)) : (zws b B cI cB cD h)[a]? = some (B + a, .inl (cI, vs.length, .inl (fun j => zi (vs.getD j .null)))) := by
  rw [zws_get, ha]; rfl
theorem zws_21 {a : Nat} {vs : List Value} (ha : h[a]? = some (21, vs)) : (zws b B cI cB cD h)[a]? = some (B + a, .inl (cB, vs.length, .inl (fun j => zi (vs.getD j .null)))) := by
  rw [zws_get, ha]; rfl
theorem zws_22 {a : Nat} {vs : List Value} (ha : h[a]? = some (22, vs)) : (zws b B cI cB cD h)[a]? = some (B + a, .inl (cD, vs.length, .inr (.inr (.inr (.inr (fun j => zo B (vs.getD j .null))))))) := by
  rw [zws_get, ha]; rfl
theorem zset_i {vs : List Value} {k : Nat} {x : Int32} (hk : k < vs.length) : (fun j => zi ((vs.set k (.int x)).getD j .null)) = upd (fun j => zi (vs.getD j .null)) k x := by
  funext j
  unfold upd
  simp only [List.getD_eq_getElem?_getD, List.getElem?_set]
  by_cases hj : k = j
  · subst hj; simp [hk, zi]
  · rw [if_neg hj, if_neg (fun q => hj q.symm)]
theorem zset_o {vs : List Value} {k x : Nat} (hk : k < vs.length) : (fun j => zo B ((vs.set k (.ref x)).getD j .null)) = va_up (fun j => zo B (vs.getD j .null)) k (some (B + x)) := by
  funext j
  unfold va_up
  simp only [List.getD_eq_getElem?_getD, List.getElem?_set]
  by_cases hj : k = j
  · subst hj; simp [hk, zo]
  · rw [if_neg hj, if_neg (fun q => hj q.symm)]
theorem zcpy_f {v0 v1 : List Value} {n : Nat} (h0 : n ≤ v0.length) (h1 : n ≤ v1.length) : (fun j => zi ((v0.take n ++ v1.drop n).getD j .null)) = va_cpy (fun j => zi (v0.getD j .null)) (fun j => zi (v1.getD j .null)) 0 0 n := by
  funext j
  unfold va_cpy
  simp only [List.getD_eq_getElem?_getD, List.getElem?_append, List.length_take, Nat.min_eq_left h0, Nat.zero_le, true_and, Nat.zero_add, Nat.sub_zero]
  by_cases hj : j < n
  · rw [if_pos hj, if_pos hj, List.getElem?_take_of_lt hj]
  · rw [if_neg hj, if_neg hj, List.getElem?_drop]
    congr 3
    omega
theorem zrep_i (n : Nat) : (fun j => zi ((List.replicate n (.int 0) : List Value).getD j .null)) = fun _ => 0 := by
  funext j
  rw [List.getD_eq_getElem?_getD, List.getElem?_replicate]
  split <;> rfl
theorem zrep_o (n : Nat) : (fun j => zo B ((List.replicate n .null : List Value).getD j .null)) = fun _ => none := by
  funext j
  rw [List.getD_eq_getElem?_getD, List.getElem?_replicate]
  split <;> rfl
theorem zsz_set {k : Nat} {c c' : ZC} (hk : h[k]? = some c) (hc : c'.2.length = c.2.length) : zsz (h.set k c') = zsz h := by
  unfold zsz
  rw [List.map_set]
  have hk' : (h.map (fun c => c.2.length))[k]? = some c.2.length := by rw [List.getElem?_map, hk]; rfl
  rw [hc]
  congr 1
  apply List.ext_getElem?
  intro j
  rw [List.getElem?_set]
  split
  · next hj => subst hj; rw [hk']; have := (List.getElem?_eq_some_iff.mp hk').1; simp only [this, if_true]
  · rfl
theorem zsz_app {c : ZC} : zsz (h ++ [c]) = zsz h + c.2.length := by simp [zsz]
theorem zget_ok {a ci k : Nat} {v : Value} (hv : zget h a ci k = some v) : ∃ fs, h[a]? = some (ci, fs) ∧ fs[k]? = some v := by
  unfold zget at hv
  split at hv
  · next c hc =>
    split at hv
    · next e => exact ⟨c.2, by rw [hc, ← e], hv⟩
    · cases hv
  · cases hv
theorem zput_ok {a ci k : Nat} {v : Value} {h' : ZH} (hv : zput h a ci k v = some h') : ∃ fs, h[a]? = some (ci, fs) ∧ k < fs.length ∧ h' = h.set a (ci, fs.set k v) := by
  unfold zput at hv
  split at hv
  · next c hc =>
    split at hv
    · next e => cases hv; exact ⟨c.2, by rw [hc, ← e.1], e.2, by rw [e.1]⟩
    · cases hv
  · cases hv
theorem zald_ok {t a : Nat} {i : Int32} {v : Value} (hv : zald h t a i = some v) : ∃ vs, h[a]? = some (t, vs) ∧ vp_in i vs.length ∧ vs[i.toNatClampNeg]? = some v := by
  unfold zald at hv
  split at hv
  · next c hc =>
    split at hv
    · next e =>
      refine ⟨c.2, by rw [hc, ← e.1], ?_, hv⟩
      have hl := (List.getElem?_eq_some_iff.mp hv).1
      exact fun q => q.elim e.2 (fun q => by omega)
    · cases hv
  · cases hv
theorem zast_ok {t a : Nat} {i : Int32} {v : Value} {h' : ZH} (hv : zast h t a i v = some h') : ∃ vs, h[a]? = some (t, vs) ∧ vp_in i vs.length ∧ i.toNatClampNeg < vs.length ∧ h' = h.set a (t, vs.set i.toNatClampNeg v) := by
  unfold zast at hv
  split at hv
  · next c hc =>
    split at hv
    · next e => cases hv; exact ⟨c.2, by rw [hc, ← e.1], fun q => q.elim e.2.1 (fun q => by have := e.2.2; omega), e.2.2, by rw [e.1]⟩
    · cases hv
  · cases hv
theorem ztag_ok {a t : Nat} (hv : ztag h a = some t) : ∃ vs, h[a]? = some (t, vs) := by
  unfold ztag at hv
  cases hc : h[a]? with
  | none => rw [hc] at hv; cases hv
  | some c => rw [hc] at hv; cases hv; exact ⟨c.2, rfl⟩
end ZW
theorem ztg_ok {pc t : Nat} {off : Int} (h : ztg pc off = some t) : (pc : Int) + off = (t : Int) := by
  unfold ztg at h
  split at h
  · next e => cases h; exact e
  · cases h
theorem zv_cat (b B : Nat) (v : Value) : (zv b B v).category = v.category := by cases v <;> rfl
def zlv (b B : Nat) : Nat → List Value → List (Nat × Value)
  | _, [] => []
  | i, v :: r => if v = .null then zlv b B (i + 1) r else (i, zv b B v) :: zlv b B (i + 1) r
theorem zlv_mem {b B : Nat} : ∀ {ls : List Value} {i : Nat} {q : Nat × Value}, q ∈ zlv b B i ls ↔ ∃ (k : Nat) (v : Value), ls[k]? = some v ∧ v ≠ .null ∧ q = (i + k, zv b B v)
  | [], i, q => by simp [zlv]
  | v :: r, i, q => by
    have ih := @zlv_mem b B r (i + 1) q
    unfold zlv
    constructor
    · intro hq
      split at hq
      · obtain ⟨k, w, h1, h2, h3⟩ := ih.mp hq
        exact ⟨k + 1, w, by simpa using h1, h2, by rw [h3]; congr 1; omega⟩
      · next hv =>
        rcases List.mem_cons.mp hq with hq | hq
        · exact ⟨0, v, rfl, hv, hq⟩
        · obtain ⟨k, w, h1, h2, h3⟩ := ih.mp hq
          exact ⟨k + 1, w, by simpa using h1, h2, by rw [h3]; congr 1; omega⟩
    · rintro ⟨k, w, h1, h2, h3⟩
      cases k with
      | zero =>
        simp at h1
        subst h1
        rw [if_neg h2]
        exact List.mem_cons.mpr (Or.inl h3)
      | succ k =>
        have : q ∈ zlv b B (i + 1) r := ih.mpr ⟨k, w, by simpa using h1, h2, by rw [h3]; congr 1; omega⟩
        split
        · exact this
        · exact List.mem_cons_of_mem _ this
def zL (b B mt : Nat) (ls : List Value) (lsA : Array Slot) : Prop := ls.length = zml mt ∧ lv_has lsA (zml mt) (zlv b B 0 ls) ∧ ∀ (i : Nat) (v : Value), ls[i]? = some v → v.category = 2 → i ∈ zj mt
section ZLs
variable {b B mt : Nat} {ls : List Value} {lsA lsA' : Array Slot}
theorem zL_mem (h : zL b B mt ls lsA) {k : Nat} {v : Value} (hv : ls[k]? = some v) (hn : v ≠ .null) : (k, zv b B v) ∈ zlv b B 0 ls := zlv_mem.mpr ⟨k, v, hv, hn, by rw [Nat.zero_add]⟩
theorem zL_get (h : zL b B mt ls lsA) {k : Nat} {v : Value} (hv : ls[k]? = some v) (hn : v ≠ .null) : lsA[k]? = some (.val (zv b B v)) := h.2.1.2.2 _ (zL_mem h hv hn)
theorem zL_i (h : zL b B mt ls lsA) {k : Nat} {x : Int32} (hv : zli ls k = some x) : lsA[k]? = some (.val (.int x)) := by
  unfold zli at hv
  split at hv
  · next e => cases hv; exact zL_get h e (by simp)
  · cases hv
theorem zL_l (h : zL b B mt ls lsA) {k : Nat} {x : Int64} (hv : zll ls k = some x) : lsA[k]? = some (.val (.long x)) := by
  unfold zll at hv
  split at hv
  · next e => cases hv; exact zL_get h e (by simp)
  · cases hv
theorem zL_a (h : zL b B mt ls lsA) {k : Nat} {v : Value} (hv : zla ls k = some v) : ∃ q : Nat, zv b B v = .ref q ∧ lsA[k]? = some (.val (.ref q)) := by
  unfold zla at hv
  split at hv
  · next e => cases hv; exact ⟨_, rfl, zL_get h e (by simp)⟩
  · next e => cases hv; exact ⟨_, rfl, zL_get h e (by simp)⟩
  · cases hv
theorem zok_lt {k : Nat} (h : zok mt k = true) : k < zml mt := by
  unfold zok at h
  rw [Bool.and_eq_true, decide_eq_true_eq] at h
  exact h.1
theorem zok_j {k j : Nat} (h : zok mt k = true) (hj : j ∈ zj mt) : ¬ j + 1 = k := by
  unfold zok at h
  rw [Bool.and_eq_true, Bool.not_eq_true', List.any_eq_false] at h
  intro e
  exact h.2 j hj (by rw [e]; exact beq_self_eq_true k)
theorem zL_set1 (h : zL b B mt ls lsA) {k : Nat} (hok : zok mt k = true) {v : Value} (hc : v.category = 1) (h' : lv_has lsA' (zml mt) ((k, zv b B v) :: (zlv b B 0 ls).filter (fun q => !(q.1 == k) && !(q.1 + 1 == k && q.2.category == 2)))) : zL b B mt (ls.set k v) lsA' := by
  have hk : k < ls.length := by rw [h.1]; exact zok_lt hok
  refine ⟨by rw [List.length_set]; exact h.1, ⟨h'.1, h'.2.1, fun q hq => h'.2.2 q ?_⟩, fun i w hi hw => ?_⟩
  · obtain ⟨j, w, h1, h2, h3⟩ := zlv_mem.mp hq
    rw [Nat.zero_add] at h3
    rw [List.getElem?_set] at h1
    by_cases hj : k = j
    · subst hj
      rw [if_pos rfl, if_pos hk] at h1
      cases h1
      exact List.mem_cons.mpr (Or.inl h3)
    · rw [if_neg hj] at h1
      refine List.mem_cons_of_mem _ (List.mem_filter.mpr ⟨zlv_mem.mpr ⟨j, w, h1, h2, by rw [Nat.zero_add]; exact h3⟩, ?_⟩)
      subst h3
      simp only [zv_cat, Bool.and_eq_true, Bool.not_eq_true', beq_eq_false_iff_ne, Bool.and_eq_false_iff]
      refine ⟨fun e => hj e.symm, ?_⟩
      by_cases hw : w.category = 2
      · exact Or.inl (zok_j hok (h.2.2 j w h1 hw))
      · exact Or.inr hw
  · rw [List.getElem?_set] at hi
    by_cases hj : k = i
    · subst hj
      rw [if_pos rfl, if_pos hk] at hi
      cases hi
      omega
    · rw [if_neg hj] at hi
      exact h.2.2 i w hi hw
theorem zokl_lt {k : Nat} (h : zokl mt k = true) : k + 1 < zml mt ∧ (∀ j ∈ zj mt, ¬ j + 1 = k) ∧ k ∈ zj mt := by
  unfold zokl at h
  rw [Bool.and_eq_true, Bool.and_eq_true, decide_eq_true_eq, Bool.not_eq_true', List.any_eq_false] at h
  refine ⟨h.1.1, fun j hj e => h.1.2 j hj (by rw [e]; exact beq_self_eq_true k), ?_⟩
  simpa using h.2
theorem zL_set2 (h : zL b B mt ls lsA) {k : Nat} (hok : zokl mt k = true) {x : Int64} (h' : lv_has lsA' (zml mt) ((k, .long x) :: (zlv b B 0 ls).filter (fun q => !(q.1 == k) && (!(q.1 == k + 1) && !(q.1 + 1 == k && q.2.category == 2))))) : zL b B mt ((ls.set k (.long x)).set (k + 1) .null) lsA' := by
  obtain ⟨hl, hj0, hkj⟩ := zokl_lt hok
  have hk : k < ls.length := by rw [h.1]; omega
  have hk1 : k + 1 < ls.length := by rw [h.1]; omega
  refine ⟨by rw [List.length_set, List.length_set]; exact h.1, ⟨h'.1, h'.2.1, fun q hq => h'.2.2 q ?_⟩, fun i w hi hw => ?_⟩
  · obtain ⟨j, w, h1, h2, h3⟩ := zlv_mem.mp hq
    rw [Nat.zero_add] at h3
    rw [List.getElem?_set] at h1
    by_cases hj1 : k + 1 = j
    · rw [if_pos hj1, if_pos (by rw [List.length_set]; omega)] at h1
      cases h1
      exact absurd rfl h2
    · rw [if_neg hj1, List.getElem?_set] at h1
      by_cases hj : k = j
      · subst hj
        rw [if_pos rfl, if_pos hk] at h1
        cases h1
        exact List.mem_cons.mpr (Or.inl h3)
      · rw [if_neg hj] at h1
        refine List.mem_cons_of_mem _ (List.mem_filter.mpr ⟨zlv_mem.mpr ⟨j, w, h1, h2, by rw [Nat.zero_add]; exact h3⟩, ?_⟩)
        subst h3
        simp only [zv_cat, Bool.and_eq_true, Bool.not_eq_true', beq_eq_false_iff_ne, Bool.and_eq_false_iff]
        refine ⟨fun e => hj e.symm, fun e => hj1 e.symm, ?_⟩
        by_cases hw : w.category = 2
        · exact Or.inl (hj0 j (h.2.2 j w h1 hw))
        · exact Or.inr hw
  · rw [List.getElem?_set] at hi
    by_cases hj1 : k + 1 = i
    · rw [if_pos hj1, if_pos (by rw [List.length_set]; omega)] at hi
      cases hi
      cases hw
    · rw [if_neg hj1, List.getElem?_set] at hi
      by_cases hj : k = i
      · subst hj; exact hkj
      · rw [if_neg hj] at hi
        exact h.2.2 i w hi hw
end ZLs
theorem zcat_sum (b B : Nat) : ∀ r : List Value, ((r.map (zv b B)).map fun v => v.category).sum ≤ 2 * r.length
  | [] => by simp
  | v :: r => by
    have ih := zcat_sum b B r
    have hv : (zv b B v).category ≤ 2 := by cases v <;> simp [zv, Value.category]
    simp only [List.map_cons, List.sum_cons, List.length_cons]
    omega
/-- what holds wherever a method runs -/
def zC (xs : Nat → Int32) (L b B : Nat) (cI cB cD : ClassId) (D : va_G) (p : Program) (s : State) (m : MethodId) (args : Array Value) (meth : Method) (c : Code) (mt : Nat) : Prop :=
  p.tables.exec = Jvm.exec ∧ c.code = zco mt ∧ c.maxLocals = zml mt ∧ s.vm.findClass (zcn (zown mt)) = some m.cls ∧ (∀ w ∈ zTG, w.before args s = true) ∧ ((zy mt).name = "<init>" → meth.name = "<init>") ∧
  va_K D zcl [(cI, .int), (cB, .byte), (cD, .object RX1)] s ∧ va_X b L xs s s.heap ∧ b < s.heap.size ∧ b < B ∧ B ≤ s.heap.size ∧ (∀ w ∈ zNW, va_Nw w s) ∧ va_AO RX1 s
set_option maxRecDepth 100000 in
theorem zT_own : (List.range 9).all (fun ci => (List.range (zN ci)).all (fun k => decide ((zT ci k).1 = zcn ci))) = true := by decide +kernel
theorem zT_own' {ci k : Nat} (h : ci < 9) (hk : k < zN ci) : (zT ci k).1 = zcn ci := of_decide_eq_true (List.all_eq_true.mp (List.all_eq_true.mp zT_own ci (List.mem_range.mpr h)) k (List.mem_range.mpr hk))
set_option maxRecDepth 100000 in
theorem zw_arr : Cond.arrayClass .int ∈ zTG ∧ Cond.arrayClass .byte ∈ zTG := ⟨List.mem_filter.mpr ⟨by decide +kernel, rfl⟩, List.mem_filter.mpr ⟨by decide +kernel, rfl⟩⟩
theorem zW_sz {p : Program} {l : Launch} {e : Env} {R : Room} {s : State} {m : MethodId} {args : Array Value} {below : List Frame} {meth : Method} {c : Code} {H : Heap} {locs : List Loc} {cells slots : Nat} {Q : State → Prop} {g : JFrame} (k : H.size ≤ s.heap.size + cells → W p l e R s m args below meth c H locs cells slots Q g) : W p l e R s m args below meth c H locs cells slots Q g := fun T hT X => k (by rw [← hT]; exact X.heapSize) T hT X
/-- the new cell is the next -/
theorem z_next {b B : Nat} {cI cB cD : ClassId} {D : va_G} {h : ZH} {q : Nat} {E : va_E} {H : Heap} (hP : va_P D zcl (zws b B cI cB cD h ++ [(q, E)]) H) (hD : va_D (fun q => B ≤ q) (zws b B cI cB cD h ++ [(q, E)])) (hz : H.size ≤ B + h.length + 1) : q = B + h.length := by
  have hq : (zws b B cI cB cD h ++ [(q, E)])[h.length]? = some (q, E) := by
    rw [List.getElem?_append_right (by rw [zws_len]; omega), zws_len, Nat.sub_self]; rfl
  have h1 : q < H.size := (hP _ _ hq).lt
  have h2 : B ≤ q := hD.2 _ _ hq
  by_cases he : q = B + h.length
  · exact he
  · have hk : q - B < h.length := by omega
    obtain ⟨c0, hc0⟩ : ∃ c0, h[q - B]? = some c0 := ⟨_, List.getElem?_eq_getElem hk⟩
    have h3 : (zws b B cI cB cD h ++ [(q, E)])[q - B]? = some (B + (q - B), zE b B cI cB cD c0) := by
      rw [List.getElem?_append_left (by rw [zws_len]; exact hk), zws_get, hc0]; rfl
    have h4 := hD.1 _ _ _ _ h3 hq (by show B + (q - B) = q; omega)
    omega
section ZONE
variable {xs : Nat → Int32} {L b B : Nat} {cI cB cD : ClassId} {D : va_G}
variable {p : Program} {l : Launch} {e : Env} {R : Room} {s : State} {m : MethodId} {args : Array Value} {below : List Frame} {meth : Method} {c : Code} {H : Heap} {locs : List Loc} {cells slots : Nat} {Q : State → Prop}
set_option maxHeartbeats 4000000 in
set_option maxRecDepth 100000 in
theorem zs_one {mt pc len pc' z0 : Nat} {i : Instr} {ls st ls' st' : List Value} {h h' : ZH} {lsA : Array Slot}
    (C0 : zC xs L b B cI cB cD D p s m args meth c mt) (hR : zfr mt ≤ R.frames ∧ zlo mt ≤ R.locals)
    (hd : decode (zco mt) pc = .ok (i, len)) (hz : zlen i len = true) (hs : zstep xs L mt i pc ls st h = some (pc', ls', st', h'))
    (hP : va_P D zcl (zws b B cI cB cD h) H) (hS : va_S (fun q => B ≤ q) s.heap H locs) (hL : zL b B mt ls lsA)
    (hn : s.heap.size + cells = B + h.length) (hm : zsz h = z0 + slots) (hn' : B + h'.length ≤ s.heap.size + R.cells) (hm' : zsz h' ≤ z0 + R.slots)
    (kk : ∀ (H' : Heap) (locs' : List Loc) (lsA' : Array Slot) (cells' slots' : Nat), va_P D zcl (zws b B cI cB cD h') H' → va_S (fun q => B ≤ q) s.heap H' locs' → zL b B mt ls' lsA' → s.heap.size + cells' = B + h'.length → zsz h' = z0 + slots' → W p l e R s m args below meth c H' locs' cells' slots' Q (F0 m pc' lsA' (st'.map (zv b B)))) :
    W p l e R s m args below meth c H locs cells slots Q (F0 m pc lsA (st.map (zv b B))) := by
  obtain ⟨hx, hb, hml, hown, hts, hin, hK, hX, hbl, hbB, hBs, hNw, hAO⟩ := C0
  have hD : va_D (fun q => B ≤ q) (zws b B cI cB cD h) := zws_D
  have hA : ∀ q : Nat, s.heap.size ≤ q → (fun q => B ≤ q) q := fun q hq => Nat.le_trans hBs hq
  have k0 := kk H locs lsA cells slots
  cases i
  case iconst n =>
    simp only [zlen, beq_iff_eq] at hz; subst hz
    simp only [zstep] at hs
    cases hs
    exact lv_iconst hx hb hd rfl (k0 hP hS hL hn hm)
  case bipush n =>
    simp only [zlen, beq_iff_eq] at hz; subst hz
    simp only [zstep] at hs
    cases hs
    exact lv_bipush hx hb hd rfl (k0 hP hS hL hn hm)
  case sipush n =>
    simp only [zlen, beq_iff_eq] at hz; subst hz
    simp only [zstep] at hs
    cases hs
    exact lv_sipush hx hb hd rfl (k0 hP hS hL hn hm)
  case lconst n =>
    simp only [zlen, beq_iff_eq] at hz; subst hz
    simp only [zstep] at hs
    cases hs
    exact lv_lconst hx hb hd rfl (k0 hP hS hL hn hm)
  case ldc_w x =>
    simp only [zlen, beq_iff_eq] at hz; subst hz
    simp only [zstep] at hs
    cases hv : zki (zown mt) x with
    | none => rw [hv] at hs; cases hs
    | some v => rw [hv] at hs; cases hs; exact lv_ldcw hx hb hown (hts _ (zki_ok hv)) hd (k0 hP hS hL hn hm)
  case ldc2_w x =>
    simp only [zlen, beq_iff_eq] at hz; subst hz
    simp only [zstep] at hs
    cases hv : zkl (zown mt) x with
    | none => rw [hv] at hs; cases hs
    | some v => rw [hv] at hs; cases hs; exact lv_ldc2 hx hb hown (hts _ (zkl_ok hv)) hd (k0 hP hS hL hn hm)
  case iload_n k =>
    simp only [zlen, beq_iff_eq] at hz; subst hz
    simp only [zstep] at hs
    cases hv : zli ls k.val with
    | none => rw [hv] at hs; cases hs
    | some v => rw [hv] at hs; cases hs; exact lv_iload_n hx hb hd rfl (zL_i hL hv) (k0 hP hS hL hn hm)
  case iload k =>
    simp only [zlen, beq_iff_eq] at hz; subst hz
    simp only [zstep] at hs
    cases hv : zli ls k with
    | none => rw [hv] at hs; cases hs
    | some v => rw [hv] at hs; cases hs; exact lv_iload hx hb hd (zL_i hL hv) (k0 hP hS hL hn hm)
  case lload_n k =>
    simp only [zlen, beq_iff_eq] at hz; subst hz
    simp only [zstep] at hs
    cases hv : zll ls k.val with
    | none => rw [hv] at hs; cases hs
    | some v => rw [hv] at hs; cases hs; exact lv_lload_n hx hb hd rfl (zL_l hL hv) (k0 hP hS hL hn hm)
  case lload k =>
    simp only [zlen, beq_iff_eq] at hz; subst hz
    simp only [zstep] at hs
    cases hv : zll ls k with
    | none => rw [hv] at hs; cases hs
    | some v => rw [hv] at hs; cases hs; exact lv_lload hx hb hd (zL_l hL hv) (k0 hP hS hL hn hm)
  case aload_n k =>
    simp only [zlen, beq_iff_eq] at hz; subst hz
    simp only [zstep] at hs
    cases hv : zla ls k.val with
    | none => rw [hv] at hs; cases hs
    | some v =>
      rw [hv] at hs; cases hs
      obtain ⟨q, e1, hq⟩ := zL_a hL hv
      have k1 := (k0 hP hS hL hn hm)
      rw [List.map_cons, e1] at k1
      exact lv_aload_n hx hb hd rfl hq k1
  case aload k =>
    simp only [zlen, beq_iff_eq] at hz; subst hz
    simp only [zstep] at hs
    cases hv : zla ls k with
    | none => rw [hv] at hs; cases hs
    | some v =>
      rw [hv] at hs; cases hs
      obtain ⟨q, e1, hq⟩ := zL_a hL hv
      have k1 := (k0 hP hS hL hn hm)
      rw [List.map_cons, e1] at k1
      exact lv_aload hx hb hd hq k1
  case istore_n k =>
    simp only [zlen, beq_iff_eq] at hz; subst hz
    simp only [zstep] at hs
    split at hs
    · split at hs
      · next hok => cases hs; exact lv_istore_n hx hb hd rfl hL.2.1 (zok_lt hok) rfl (fun lsA1 h1 => kk _ _ _ _ _ hP hS (zL_set1 hL hok rfl h1) hn hm)
      · cases hs
    · cases hs
  case istore k =>
    simp only [zlen, beq_iff_eq] at hz; subst hz
    simp only [zstep] at hs
    split at hs
    · split at hs
      · next hok => cases hs; exact lv_istore hx hb hd hL.2.1 (zok_lt hok) rfl (fun lsA1 h1 => kk _ _ _ _ _ hP hS (zL_set1 hL hok rfl h1) hn hm)
      · cases hs
    · cases hs
  case astore_n k =>
    simp only [zlen, beq_iff_eq] at hz; subst hz
    simp only [zstep] at hs
    split at hs
    · split at hs
      · next hok => cases hs; exact lv_astore_n hx hb hd rfl hL.2.1 (zok_lt hok) rfl (fun lsA1 h1 => kk _ _ _ _ _ hP hS (zL_set1 hL hok rfl h1) hn hm)
      · cases hs
    · cases hs
  case astore k =>
    simp only [zlen, beq_iff_eq] at hz; subst hz
    simp only [zstep] at hs
    split at hs
    · split at hs
      · next hok => cases hs; exact lv_astore hx hb hd hL.2.1 (zok_lt hok) rfl (fun lsA1 h1 => kk _ _ _ _ _ hP hS (zL_set1 hL hok rfl h1) hn hm)
      · cases hs
    · cases hs
  case lstore_n k =>
    simp only [zlen, beq_iff_eq] at hz; subst hz
    simp only [zstep] at hs
    split at hs
    · split at hs
      · next hok => cases hs; exact lv_lstore_n hx hb hd rfl hL.2.1 (zokl_lt hok).1 rfl (fun lsA1 h1 => kk _ _ _ _ _ hP hS (zL_set2 hL hok h1) hn hm)
      · cases hs
    · cases hs
  case lstore k =>
    simp only [zlen, beq_iff_eq] at hz; subst hz
    simp only [zstep] at hs
    split at hs
    · split at hs
      · next hok => cases hs; exact lv_lstore hx hb hd hL.2.1 (zokl_lt hok).1 rfl (fun lsA1 h1 => kk _ _ _ _ _ hP hS (zL_set2 hL hok h1) hn hm)
      · cases hs
    · cases hs
  case iinc k n =>
    simp only [zlen, beq_iff_eq] at hz; subst hz
    simp only [zstep] at hs
    split at hs
    · next x hv =>
      split at hs
      · next hok =>
        cases hs
        have hv1 : ls[k]? = some (.int x) := by
          unfold zli at hv
          split at hv
          · next e => cases hv; exact e
          · cases hv
        obtain ⟨j, hj⟩ := List.getElem?_of_mem (zL_mem hL hv1 (by simp))
        exact lv_iinc hx hb hd hL.2.1 (k := j) hj rfl (zok_lt hok) rfl (fun lsA1 h1 => kk _ _ _ _ _ hP hS (zL_set1 hL hok rfl h1) hn hm)
      · cases hs
    · cases hs
  case iadd =>
    simp only [zlen, beq_iff_eq] at hz; subst hz
    simp only [zstep] at hs
    split at hs
    · cases hs; exact lv_iadd hx hb hd (k0 hP hS hL hn hm)
    · cases hs
  case isub =>
    simp only [zlen, beq_iff_eq] at hz; subst hz
    simp only [zstep] at hs
    split at hs
    · cases hs; exact lv_isub hx hb hd (k0 hP hS hL hn hm)
    · cases hs
  case imul =>
    simp only [zlen, beq_iff_eq] at hz; subst hz
    simp only [zstep] at hs
    split at hs
    · cases hs; exact lv_imul hx hb hd (k0 hP hS hL hn hm)
    · cases hs
  case iand =>
    simp only [zlen, beq_iff_eq] at hz; subst hz
    simp only [zstep] at hs
    split at hs
    · cases hs; exact lv_iand hx hb hd (k0 hP hS hL hn hm)
    · cases hs
  case ior =>
    simp only [zlen, beq_iff_eq] at hz; subst hz
    simp only [zstep] at hs
    split at hs
    · cases hs; exact lv_ior hx hb hd (k0 hP hS hL hn hm)
    · cases hs
  case ixor =>
    simp only [zlen, beq_iff_eq] at hz; subst hz
    simp only [zstep] at hs
    split at hs
    · cases hs; exact lv_ixor hx hb hd (k0 hP hS hL hn hm)
    · cases hs
  case ishl =>
    simp only [zlen, beq_iff_eq] at hz; subst hz
    simp only [zstep] at hs
    split at hs
    · cases hs; exact lv_ishl hx hb hd (k0 hP hS hL hn hm)
    · cases hs
  case ishr =>
    simp only [zlen, beq_iff_eq] at hz; subst hz
    simp only [zstep] at hs
    split at hs
    · cases hs; exact lv_ishr hx hb hd (k0 hP hS hL hn hm)
    · cases hs
  case ladd =>
    simp only [zlen, beq_iff_eq] at hz; subst hz
    simp only [zstep] at hs
    split at hs
    · cases hs; exact lv_ladd hx hb hd (k0 hP hS hL hn hm)
    · cases hs
  case lmul =>
    simp only [zlen, beq_iff_eq] at hz; subst hz
    simp only [zstep] at hs
    split at hs
    · cases hs; exact lv_lmul hx hb hd (k0 hP hS hL hn hm)
    · cases hs
  case land =>
    simp only [zlen, beq_iff_eq] at hz; subst hz
    simp only [zstep] at hs
    split at hs
    · cases hs; exact lv_land hx hb hd (k0 hP hS hL hn hm)
    · cases hs
  case lor =>
    simp only [zlen, beq_iff_eq] at hz; subst hz
    simp only [zstep] at hs
    split at hs
    · cases hs; exact lv_lor hx hb hd (k0 hP hS hL hn hm)
    · cases hs
  case iushr =>
    simp only [zlen, beq_iff_eq] at hz; subst hz
    simp only [zstep] at hs
    split at hs
    · cases hs; exact lv_iushr hx hb hd rfl (k0 hP hS hL hn hm)
    · cases hs
  case lshl =>
    simp only [zlen, beq_iff_eq] at hz; subst hz
    simp only [zstep] at hs
    split at hs
    · cases hs; exact lv_lshl hx hb hd rfl (k0 hP hS hL hn hm)
    · cases hs
  case lshr =>
    simp only [zlen, beq_iff_eq] at hz; subst hz
    simp only [zstep] at hs
    split at hs
    · cases hs; exact lv_lshr hx hb hd rfl (k0 hP hS hL hn hm)
    · cases hs
  case lushr =>
    simp only [zlen, beq_iff_eq] at hz; subst hz
    simp only [zstep] at hs
    split at hs
    · cases hs; exact lv_lushr hx hb hd rfl (k0 hP hS hL hn hm)
    · cases hs
  case i2l =>
    simp only [zlen, beq_iff_eq] at hz; subst hz
    simp only [zstep] at hs
    split at hs
    · cases hs; exact lv_i2l hx hb hd rfl (k0 hP hS hL hn hm)
    · cases hs
  case l2i =>
    simp only [zlen, beq_iff_eq] at hz; subst hz
    simp only [zstep] at hs
    split at hs
    · cases hs; exact lv_l2i hx hb hd rfl (k0 hP hS hL hn hm)
    · cases hs
  case i2b =>
    simp only [zlen, beq_iff_eq] at hz; subst hz
    simp only [zstep] at hs
    split at hs
    · cases hs; exact lv_i2b hx hb hd rfl (k0 hP hS hL hn hm)
    · cases hs
  case lcmp =>
    simp only [zlen, beq_iff_eq] at hz; subst hz
    simp only [zstep] at hs
    split at hs
    · cases hs; exact W.lcmp hx hb hd (k0 hP hS hL hn hm)
    · cases hs
  case idiv =>
    simp only [zlen, beq_iff_eq] at hz; subst hz
    simp only [zstep] at hs
    split at hs
    · split at hs
      · cases hs
      · next hne => cases hs; exact lv_idiv hx hb hd hne (k0 hP hS hL hn hm)
    · cases hs
  case irem =>
    simp only [zlen, beq_iff_eq] at hz; subst hz
    simp only [zstep] at hs
    split at hs
    · split at hs
      · cases hs
      · next hne => cases hs; exact lv_irem hx hb hd hne (k0 hP hS hL hn hm)
    · cases hs
  case lrem =>
    simp only [zlen, beq_iff_eq] at hz; subst hz
    simp only [zstep] at hs
    split at hs
    · split at hs
      · cases hs
      · next hne => cases hs; exact lv_lrem hx hb hd hne (k0 hP hS hL hn hm)
    · cases hs
  case dup =>
    simp only [zlen, beq_iff_eq] at hz; subst hz
    simp only [zstep] at hs
    split at hs
    · cases hs; exact lv_dup hx hb hd rfl (k0 hP hS hL hn hm)
    · cases hs; exact lv_dup hx hb hd rfl (k0 hP hS hL hn hm)
    · cases hs
  case dup2 =>
    simp only [zlen, beq_iff_eq] at hz; subst hz
    simp only [zstep] at hs
    split at hs
    · cases hs; exact lv_dup2_11 hx hb hd rfl rfl (k0 hP hS hL hn hm)
    · cases hs
  case pop =>
    simp only [zlen, beq_iff_eq] at hz; subst hz
    simp only [zstep] at hs
    split at hs
    · cases hs; exact lv_pop hx hb hd rfl (k0 hP hS hL hn hm)
    · cases hs
  case ifCond cnd off =>
    simp only [zlen, beq_iff_eq] at hz; subst hz
    simp only [zstep] at hs
    split at hs
    · next x r =>
      cases ht : ztg pc off with
      | none => rw [ht] at hs; cases hs
      | some t =>
        rw [ht] at hs; cases hs
        have ht1 := ztg_ok ht
        cases cnd with
        | eq =>
          refine lv_if_eq hx hb hd ht1 (fun q => ?_) (fun q => ?_)
          · have e1 : zcz .eq x = true := decide_eq_true q
            rw [if_pos e1] at k0; exact (k0 hP hS hL hn hm)
          · have e1 : zcz .eq x = false := decide_eq_false q
            rw [if_neg (by rw [e1]; exact Bool.false_ne_true)] at k0; exact (k0 hP hS hL hn hm)
        | ne =>
          refine lv_if_ne hx hb hd ht1 (fun q => ?_) (fun q => ?_)
          · have e1 : zcz .ne x = true := decide_eq_true q
            rw [if_pos e1] at k0; exact (k0 hP hS hL hn hm)
          · have e1 : zcz .ne x = false := decide_eq_false (fun n => n q)
            rw [if_neg (by rw [e1]; exact Bool.false_ne_true)] at k0; exact (k0 hP hS hL hn hm)
        | lt =>
          refine lv_if_lt hx hb hd ht1 (fun q => ?_) (fun q => ?_)
          · have e1 : zcz .lt x = true := decide_eq_true q
            rw [if_pos e1] at k0; exact (k0 hP hS hL hn hm)
          · have e1 : zcz .lt x = false := decide_eq_false q
            rw [if_neg (by rw [e1]; exact Bool.false_ne_true)] at k0; exact (k0 hP hS hL hn hm)
        | ge =>
          refine lv_if_ge hx hb hd ht1 (fun q => ?_) (fun q => ?_)
          · have e1 : zcz .ge x = true := decide_eq_true q
            rw [if_pos e1] at k0; exact (k0 hP hS hL hn hm)
          · have e1 : zcz .ge x = false := decide_eq_false q
            rw [if_neg (by rw [e1]; exact Bool.false_ne_true)] at k0; exact (k0 hP hS hL hn hm)
        | gt =>
          refine lv_if_gt hx hb hd ht1 (fun q => ?_) (fun q => ?_)
          · have e1 : zcz .gt x = true := decide_eq_true q
            rw [if_pos e1] at k0; exact (k0 hP hS hL hn hm)
          · have e1 : zcz .gt x = false := decide_eq_false q
            rw [if_neg (by rw [e1]; exact Bool.false_ne_true)] at k0; exact (k0 hP hS hL hn hm)
        | le =>
          refine lv_if_le hx hb hd ht1 (fun q => ?_) (fun q => ?_)
          · have e1 : zcz .le x = true := decide_eq_true q
            rw [if_pos e1] at k0; exact (k0 hP hS hL hn hm)
          · have e1 : zcz .le x = false := decide_eq_false q
            rw [if_neg (by rw [e1]; exact Bool.false_ne_true)] at k0; exact (k0 hP hS hL hn hm)
    · cases hs
  case if_icmp cnd off =>
    simp only [zlen, beq_iff_eq] at hz; subst hz
    simp only [zstep] at hs
    split at hs
    · next y x r =>
      cases ht : ztg pc off with
      | none => rw [ht] at hs; cases hs
      | some t =>
        rw [ht] at hs; cases hs
        have ht1 := ztg_ok ht
        cases cnd with
        | eq =>
          refine lv_icmp_eq hx hb hd ht1 (fun q => ?_) (fun q => ?_)
          · have e1 : zcc .eq x y = true := decide_eq_true q
            rw [if_pos e1] at k0; exact (k0 hP hS hL hn hm)
          · have e1 : zcc .eq x y = false := decide_eq_false q
            rw [if_neg (by rw [e1]; exact Bool.false_ne_true)] at k0; exact (k0 hP hS hL hn hm)
        | ne =>
          refine lv_icmp_ne hx hb hd ht1 (fun q => ?_) (fun q => ?_)
          · have e1 : zcc .ne x y = true := decide_eq_true q
            rw [if_pos e1] at k0; exact (k0 hP hS hL hn hm)
          · have e1 : zcc .ne x y = false := decide_eq_false (fun n => n q)
            rw [if_neg (by rw [e1]; exact Bool.false_ne_true)] at k0; exact (k0 hP hS hL hn hm)
        | lt =>
          refine lv_icmp_lt hx hb hd ht1 (fun q => ?_) (fun q => ?_)
          · have e1 : zcc .lt x y = true := decide_eq_true q
            rw [if_pos e1] at k0; exact (k0 hP hS hL hn hm)
          · have e1 : zcc .lt x y = false := decide_eq_false q
            rw [if_neg (by rw [e1]; exact Bool.false_ne_true)] at k0; exact (k0 hP hS hL hn hm)
        | ge =>
          refine lv_icmp_ge hx hb hd ht1 (fun q => ?_) (fun q => ?_)
          · have e1 : zcc .ge x y = true := decide_eq_true q
            rw [if_pos e1] at k0; exact (k0 hP hS hL hn hm)
          · have e1 : zcc .ge x y = false := decide_eq_false q
            rw [if_neg (by rw [e1]; exact Bool.false_ne_true)] at k0; exact (k0 hP hS hL hn hm)
        | gt =>
          refine lv_icmp_gt hx hb hd ht1 (fun q => ?_) (fun q => ?_)
          · have e1 : zcc .gt x y = true := decide_eq_true q
            rw [if_pos e1] at k0; exact (k0 hP hS hL hn hm)
          · have e1 : zcc .gt x y = false := decide_eq_false q
            rw [if_neg (by rw [e1]; exact Bool.false_ne_true)] at k0; exact (k0 hP hS hL hn hm)
        | le =>
          refine lv_icmp_le hx hb hd ht1 (fun q => ?_) (fun q => ?_)
          · have e1 : zcc .le x y = true := decide_eq_true q
            rw [if_pos e1] at k0; exact (k0 hP hS hL hn hm)
          · have e1 : zcc .le x y = false := decide_eq_false q
            rw [if_neg (by rw [e1]; exact Bool.false_ne_true)] at k0; exact (k0 hP hS hL hn hm)
    · cases hs
  case goto off =>
    simp only [zlen, beq_iff_eq] at hz; subst hz
    simp only [zstep] at hs
    cases ht : ztg pc off with
    | none => rw [ht] at hs; cases hs
    | some t => rw [ht] at hs; cases hs; exact lv_goto hx hb hd (ztg_ok ht) (k0 hP hS hL hn hm)
  case tableswitch d lo hi offs =>
    simp only [zstep] at hs
    split at hs
    · next x r =>
      split at hs
      · next ho =>
        cases ht : ztg pc d with
        | none => rw [ht] at hs; cases hs
        | some t => rw [ht] at hs; cases hs; exact lv_tableOut hx hb hd ho (ztg_ok ht) (k0 hP hS hL hn hm)
      · next ho =>
        split at hs
        · next off hof =>
          cases ht : ztg pc off with
          | none => rw [ht] at hs; cases hs
          | some t => rw [ht] at hs; cases hs; exact lv_tableIn hx hb hd (fun q => ho (Or.inl q)) (fun q => ho (Or.inr q)) hof (ztg_ok ht) (k0 hP hS hL hn hm)
        · cases hs
    · cases hs
  case lookupswitch d ps =>
    simp only [zstep] at hs
    split at hs
    · next x r =>
      split at hs
      · next ho =>
        cases ht : ztg pc (Op.lookupswitch.offset ps.toList d x.toInt) with
        | none => rw [ht] at hs; cases hs
        | some t => rw [ht] at hs; cases hs; exact lv_lookup hx hb hd ho rfl (ztg_ok ht) (k0 hP hS hL hn hm)
      · cases hs
    · cases hs
  case getfield x =>
    simp only [zlen, beq_iff_eq] at hz; subst hz
    simp only [zstep] at hs
    split at hs
    · next a r =>
      split at hs
      · next ci k hf =>
        obtain ⟨hci, hk, hw⟩ := zfl_ok hf
        cases hv : zget h a ci k with
        | none => rw [hv] at hs; cases hs
        | some v =>
          rw [hv] at hs; cases hs
          obtain ⟨fs, ha, hv⟩ := zget_ok hv
          exact va_get (D := D) (v := zv b B v) (C := zCn ci) (T := zT ci) (N := zN ci) hx hb hts (zws_in hci) hown hK hP a (zws_obj hci ha) (zcl_at hci) k hk (hts _ hw) (fun _ h9 => h9) (by rw [List.getElem?_map, hv]; rfl) hd (k0 hP hS hL hn hm)
      · cases hs
    · cases hs
  case putfield x =>
    simp only [zlen, beq_iff_eq] at hz; subst hz
    simp only [zstep] at hs
    split at hs
    · next v a r =>
      split at hs
      · next ci k hf =>
        obtain ⟨hci, hk, hw⟩ := zfl_ok hf
        split at hs
        · next hpp =>
          rw [Bool.and_eq_true] at hpp
          cases hv : zput h a ci k v with
          | none => rw [hv] at hs; cases hs
          | some h1 =>
            rw [hv] at hs; cases hs
            obtain ⟨fs, ha, hkl, rfl⟩ := zput_ok hv
            have hnar : narrow (zty ci k) (zv b B v) = zv b B v ∧ fits (zty ci k) (zv b B v) = true := by
              have ht := zty_v hci hk
              have hpv := hpp.1
              unfold zpv at hpv
              split at hpv
              · next y => rw [if_pos hpv] at ht; rw [ht]; exact ⟨vp_nar_int y, rfl⟩
              · next y =>
                rw [Bool.not_eq_true'] at hpv
                rw [if_neg (by rw [hpv]; exact Bool.false_ne_true)] at ht
                exact zrf_ok ht _
              · cases hpv
            cases hfin : zisF ci k with
            | false => exact va_put (D := D) (v := zv b B v) (C := zCn ci) (T := zT ci) (N := zN ci) hx hb hts (zws_in hci) (zty ci) (zty_ok hci) (znm hci) hown hK hP hD hS a (zws_obj hci ha) (zcl_at hci) k hk (hts _ hw) (fun _ h9 => h9) hfin (zty_ok hci k hk) hnar.1 hnar.2 (by rw [List.length_map]; exact hkl) hd (fun H1 locs1 hP1 hD1 hS1 => kk _ _ _ _ _ (by rw [← zws_set, zE_obj hci, List.map_set]; exact hP1) hS1 hL (by rw [List.length_set]; exact hn) (by rw [zsz_set ha (by simp)]; exact hm))
            | true =>
              have hpf := hpp.2
              unfold zpf at hpf
              rw [hfin] at hpf
              simp only [Bool.not_true, Bool.false_or, Bool.and_eq_true, beq_iff_eq] at hpf
              exact va_putF (D := D) (v := zv b B v) (C := zCn ci) (T := zT ci) (N := zN ci) hx hb hts (zws_in hci) (zty ci) (zty_ok hci) (znm hci) hown hK hP hD hS a (zws_obj hci ha) (zcl_at hci) k hk (hts _ hw) (fun _ h9 => h9) hfin (hin hpf.1) (by rw [zT_own' hci hk, hpf.2]) (zty_ok hci k hk) hnar.1 hnar.2 (by rw [List.length_map]; exact hkl) hd (fun H1 locs1 hP1 hD1 hS1 => kk _ _ _ _ _ (by rw [← zws_set, zE_obj hci, List.map_set]; exact hP1) hS1 hL (by rw [List.length_set]; exact hn) (by rw [zsz_set ha (by simp)]; exact hm))
        · cases hs
      · cases hs
    · cases hs
  case iaload =>
    simp only [zlen, beq_iff_eq] at hz; subst hz
    simp only [zstep] at hs
    split at hs
    · next i a r =>
      split at hs
      · next x hv =>
        cases hs
        obtain ⟨vs, ha, hi, hv⟩ := zald_ok hv
        refine va_iald (D := D) hx hb hK hP a 0 (zws_20 ha) rfl hi hd ?_
        have e1 : zi (vs.getD i.toNatClampNeg .null) = x := by rw [List.getD_eq_getElem?_getD, hv]; rfl
        rw [e1]
        exact (k0 hP hS hL hn hm)
      · cases hs
    · next i z r =>
      split at hs
      · next hi => cases hs; exact va_sld hx hb hX hbl (Nat.not_le.mpr hbB) hS (fun q => q.elim hi.1 (fun q => by have := hi.2; omega)) hd (k0 hP hS hL hn hm)
      · cases hs
    · cases hs
  case baload =>
    simp only [zlen, beq_iff_eq] at hz; subst hz
    simp only [zstep] at hs
    split at hs
    · next i a r =>
      split at hs
      · next x hv =>
        cases hs
        obtain ⟨vs, ha, hi, hv⟩ := zald_ok hv
        refine va_bald (D := D) hx hb hK hP a 1 (zws_21 ha) rfl hi hd ?_
        have e1 : zi (vs.getD i.toNatClampNeg .null) = x := by rw [List.getD_eq_getElem?_getD, hv]; rfl
        rw [e1]
        exact (k0 hP hS hL hn hm)
      · cases hs
    · cases hs
  case aaload =>
    simp only [zlen, beq_iff_eq] at hz; subst hz
    simp only [zstep] at hs
    split at hs
    · next i a r =>
      split at hs
      · next x hv =>
        cases hs
        obtain ⟨vs, ha, hi, hv⟩ := zald_ok hv
        refine va_aldq (D := D) hx hb hK hP a 2 (zws_22 ha) rfl hi hd ?_
        have e1 : zo B (vs.getD i.toNatClampNeg .null) = some (B + x) := by rw [List.getD_eq_getElem?_getD, hv]; rfl
        rw [e1]
        exact (k0 hP hS hL hn hm)
      · cases hs
    · cases hs
  case iastore =>
    simp only [zlen, beq_iff_eq] at hz; subst hz
    simp only [zstep] at hs
    split at hs
    · next x i a r =>
      cases hv : zast h 20 a i (.int x) with
      | none => rw [hv] at hs; cases hs
      | some h1 =>
        rw [hv] at hs; cases hs
        obtain ⟨vs, ha, hi, hl, rfl⟩ := zast_ok hv
        refine va_iast (D := D) hx hb hK hP hD hS a 0 (zws_20 ha) rfl hi hd (fun H1 locs1 hP1 hD1 hS1 => kk _ _ _ _ _ ?_ hS1 hL (by rw [List.length_set]; exact hn) (by rw [zsz_set ha (by simp)]; exact hm))
        rw [← zws_set]
        rw [← zset_i hl] at hP1
        have e1 : zE b B cI cB cD (20, vs.set i.toNatClampNeg (.int x)) = .inl (cI, vs.length, .inl (fun j => zi ((vs.set i.toNatClampNeg (.int x)).getD j .null))) := by simp [zE]
        rw [e1]
        exact hP1
    · cases hs
  case bastore =>
    simp only [zlen, beq_iff_eq] at hz; subst hz
    simp only [zstep] at hs
    split at hs
    · next x i a r =>
      cases hv : zast h 21 a i (.int (vp_nar .byte x)) with
      | none => rw [hv] at hs; cases hs
      | some h1 =>
        rw [hv] at hs; cases hs
        obtain ⟨vs, ha, hi, hl, rfl⟩ := zast_ok hv
        refine va_bast (D := D) hx hb hK hP hD hS a 1 (zws_21 ha) rfl hi hd (fun H1 locs1 hP1 hD1 hS1 => kk _ _ _ _ _ ?_ hS1 hL (by rw [List.length_set]; exact hn) (by rw [zsz_set ha (by simp)]; exact hm))
        rw [← zws_set]
        rw [← zset_i hl] at hP1
        have e1 : zE b B cI cB cD (21, vs.set i.toNatClampNeg (.int (vp_nar .byte x))) = .inl (cB, vs.length, .inl (fun j => zi ((vs.set i.toNatClampNeg (.int (vp_nar .byte x))).getD j .null))) := by simp [zE]
        rw [e1]
        exact hP1
    · cases hs
  case aastore =>
    simp only [zlen, beq_iff_eq] at hz; subst hz
    simp only [zstep] at hs
    split at hs
    · next x i a r =>
      split at hs
      · next hxt =>
        cases hv : zast h 22 a i (.ref x) with
        | none => rw [hv] at hs; cases hs
        | some h1 =>
          rw [hv] at hs; cases hs
          obtain ⟨vs, ha, hi, hl, rfl⟩ := zast_ok hv
          obtain ⟨ws, hxw⟩ := ztag_ok hxt
          refine va_astq (D := D) hx hb hK hP hD hS a 2 x 1 (r := (RX1, TX1, 7)) (zws_22 ha) rfl (zws_obj (by decide) hxw) rfl hi hd (fun H1 locs1 hP1 hD1 hS1 => kk _ _ _ _ _ ?_ hS1 hL (by rw [List.length_set]; exact hn) (by rw [zsz_set ha (by simp)]; exact hm))
          rw [← zws_set]
          rw [← zset_o hl] at hP1
          have e1 : zE b B cI cB cD (22, vs.set i.toNatClampNeg (.ref x)) = .inl (cD, vs.length, .inr (.inr (.inr (.inr (fun j => zo B ((vs.set i.toNatClampNeg (.ref x)).getD j .null)))))) := by simp [zE]
          rw [e1]
          exact hP1
      · cases hs
    · cases hs
  case arraylength =>
    simp only [zlen, beq_iff_eq] at hz; subst hz
    simp only [zstep] at hs
    split at hs
    · next a r =>
      cases hv : zaln h a with
      | none => rw [hv] at hs; cases hs
      | some n =>
        rw [hv] at hs; cases hs
        unfold zaln at hv
        split at hv
        · next c0 hc0 =>
          obtain ⟨t, vs⟩ := c0
          split at hv
          · next ht =>
            cases hv
            rcases ht with rfl | rfl | rfl
            · exact va_alen (D := D) hx hb hK hP a 0 (zws_20 hc0) rfl rfl hd (k0 hP hS hL hn hm)
            · exact va_alen (D := D) hx hb hK hP a 1 (zws_21 hc0) rfl rfl hd (k0 hP hS hL hn hm)
            · exact va_alen (D := D) hx hb hK hP a 2 (zws_22 hc0) rfl rfl hd (k0 hP hS hL hn hm)
          · cases hv
        · cases hv
    · next z r => cases hs; exact va_slen hx hb hX hbl (Nat.not_le.mpr hbB) hS hd (k0 hP hS hL hn hm)
    · cases hs
  case newarray t =>
    simp only [zlen, beq_iff_eq] at hz; subst hz
    simp only [zstep] at hs
    split at hs
    · next n r =>
      split at hs
      · next ho =>
        cases hs
        rcases ho.2.2 with ht | ht
        · subst ht
          have hn1 : s.heap.size + cells + 1 ≤ s.heap.size + R.cells := by simp at hn'; omega
          have hm1 : slots + n.toNatClampNeg ≤ R.slots := by rw [zsz_app] at hm'; simp at hm'; omega
          refine va_newa (D := D) (atype := .int) (ty := .int) (a0 := (n.toNatClampNeg, .inl (fun _ => 0))) hx hb (hts _ zw_arr.1) rfl hK hP hD hS hA (fun _ => rfl) ho.1 rfl (by show n.toNatClampNeg * 4 ≤ _; omega) (by omega) hm1 hd (fun q cA H1 hK1 hP1 hD1 hS1 => zW_sz (fun hz1 => ?_))
          have hq : q = B + h.length := z_next hP1 hD1 (by omega)
          have hcA : cI = cA := (Option.some.inj (((hK1.2 3 _ rfl).2 : s.vm.findClass _ = some cA).symm.trans ((hK.2 0 _ rfl).2))).symm
          subst hcA
          subst hq
          have e1 : zE b B cI cB cD (20, List.replicate n.toNatClampNeg (.int 0)) = .inl (cI, n.toNatClampNeg, .inl (fun _ => 0)) := by
            rw [← zrep_i n.toNatClampNeg]; simp [zE]
          rw [← e1] at hP1
          exact kk H1 locs lsA (cells + 1) (slots + n.toNatClampNeg) (by rw [zws_app] at hP1; exact hP1) hS1 hL (by simp; omega) (by rw [zsz_app]; simp; omega)
        · subst ht
          have hn1 : s.heap.size + cells + 1 ≤ s.heap.size + R.cells := by simp at hn'; omega
          have hm1 : slots + n.toNatClampNeg ≤ R.slots := by rw [zsz_app] at hm'; simp at hm'; omega
          refine va_newa (D := D) (atype := .byte) (ty := .byte) (a0 := (n.toNatClampNeg, .inl (fun _ => 0))) hx hb (hts _ zw_arr.2) rfl hK hP hD hS hA (fun _ => rfl) ho.1 rfl (by show n.toNatClampNeg * 1 ≤ _; omega) (by omega) hm1 hd (fun q cA H1 hK1 hP1 hD1 hS1 => zW_sz (fun hz1 => ?_))
          have hq : q = B + h.length := z_next hP1 hD1 (by omega)
          have hcA : cB = cA := (Option.some.inj (((hK1.2 3 _ rfl).2 : s.vm.findClass _ = some cA).symm.trans ((hK.2 1 _ rfl).2))).symm
          subst hcA
          subst hq
          have e1 : zE b B cI cB cD (21, List.replicate n.toNatClampNeg (.int 0)) = .inl (cB, n.toNatClampNeg, .inl (fun _ => 0)) := by
            rw [← zrep_i n.toNatClampNeg]; simp [zE]
          rw [← e1] at hP1
          exact kk H1 locs lsA (cells + 1) (slots + n.toNatClampNeg) (by rw [zws_app] at hP1; exact hP1) hS1 hL (by simp; omega) (by rw [zsz_app]; simp; omega)
      · cases hs
    · cases hs
  case anewarray x =>
    simp only [zlen, beq_iff_eq] at hz; subst hz
    simp only [zstep] at hs
    split at hs
    · next n r =>
      split at hs
      · next ho =>
        cases hs
        have hn1 : s.heap.size + cells + 1 ≤ s.heap.size + R.cells := by simp at hn'; omega
        have hm1 : slots + n.toNatClampNeg ≤ R.slots := by rw [zsz_app] at hm'; simp at hm'; omega
        refine va_newq (D := D) (C := RX1) hx hb hown (hts _ (znw_ok ho.2.2).2.1) hAO hK hP hD hS hA ho.1 rfl (by omega) (by omega) hm1 hd (fun q cA H1 hK1 hP1 hD1 hS1 => zW_sz (fun hz1 => ?_))
        have hq : q = B + h.length := z_next hP1 hD1 (by omega)
        have hcA : cA = cD := by
          obtain ⟨_, _, _, _, _, f1⟩ := (hK1.2 3 _ rfl).2
          obtain ⟨_, _, _, _, _, f2⟩ := (hK.2 2 _ rfl).2
          exact Option.some.inj (f1.symm.trans f2)
        subst hcA
        subst hq
        have e1 : zE b B cI cB cA (22, List.replicate n.toNatClampNeg .null) = .inl (cA, n.toNatClampNeg, .inr (.inr (.inr (.inr (fun _ => none))))) := by
          rw [← zrep_o (B := B) n.toNatClampNeg]; simp [zE]
        rw [← e1] at hP1
        exact kk H1 locs lsA (cells + 1) (slots + n.toNatClampNeg) (by rw [zws_app] at hP1; exact hP1) hS1 hL (by simp; omega) (by rw [zsz_app]; simp; omega)
      · cases hs
    · cases hs
  case new x =>
    simp only [zlen, beq_iff_eq] at hz; subst hz
    simp only [zstep] at hs
    split at hs
    · next ci hw =>
      cases hs
      obtain ⟨hci, h1, h2, h3⟩ := znw_ok hw
      have hdl : (zdf ci).length = zN ci := by simp [zdf]
      have hn1 : s.heap.size + cells + 1 ≤ s.heap.size + R.cells := by simp at hn'; omega
      have hm1 : slots + zN ci ≤ R.slots := by rw [zsz_app] at hm'; simp only [hdl] at hm'; omega
      refine va_new (D := D) (C := zCn ci) (T := zT ci) (N := zN ci) (ci := ci) (fs := zdf ci) hx hb hts (zws_in hci) (zty ci) (zty_ok hci) hown (hts _ h1) (hts _ h2) (hts _ h3) hK hP hD hS hA (zcl_at hci) (zdf_v hci) (by omega) hm1 hd (fun q H1 hP1 hD1 hS1 => zW_sz (fun hz1 => ?_))
      have hq : q = B + h.length := z_next hP1 hD1 (by omega)
      subst hq
      have e1 : zE b B cI cB cD (ci, zdf ci) = .inr (ci, zdf ci) := by
        rw [zE_obj hci]
        congr 2
        unfold zdf
        rw [List.map_map]
        apply List.map_congr_left
        intro k _
        show zv b B (if zisI ci k then .int 0 else .null) = _
        split <;> rfl
      rw [← e1] at hP1
      exact kk H1 locs lsA (cells + 1) (slots + zN ci) (by rw [zws_app] at hP1; exact hP1) hS1 hL (by simp; omega) (by rw [zsz_app]; simp only [hdl]; omega)
    · cases hs
  case invokespecial x =>
    simp only [zlen, beq_iff_eq] at hz; subst hz
    simp only [zstep] at hs
    split at hs
    · next a r =>
      split at hs
      · next ho =>
        cases hs
        obtain ⟨ho1, ho2, ho3, ho4⟩ := ho
        cases hmk : zmk (zown mt) x with
        | none => rw [hmk] at ho1; cases ho1
        | some q =>
          obtain ⟨cal, kd⟩ := q
          rw [hmk] at ho1
          cases ho1
          obtain ⟨⟨p1, p2, p3, p4, p5⟩, hml1⟩ := zmk_in hmk
          simp only [zMLc, Bool.and_eq_true] at hml1
          have hcs := zcat_sum b B st'
          exact W.objInit hx hb hown (hts _ (zzat_mem hml1.1.1)) (hts _ (zzat_mem hml1.1.2)) (hts _ (zzat_mem hml1.2)) rfl (by rw [hml]; exact hL.2.1.1) rfl hd (by omega) (by show 2 * 0 + _ + 12 ≤ _; omega) (k0 hP hS hL hn hm)
      · cases hs
    · cases hs
  case invokestatic x =>
    simp only [zlen, beq_iff_eq] at hz; subst hz
    simp only [zstep] at hs
    cases hmk : zmk (zown mt) x with
    | none => rw [hmk] at hs; cases hs
    | some q =>
      obtain ⟨cal, kd⟩ := q
      obtain ⟨⟨p1, p2, p3, p4, p5⟩, hml1⟩ := zmk_in hmk
      rw [hmk] at hs
      simp only [Option.map_some] at hs
      split at hs
      · next e9 =>
        cases e9
        simp only [zMLc, Bool.and_eq_true] at hml1
        split at hs
        · next n dp a sp a0 r =>
          split at hs
          · next ho =>
            obtain ⟨ho2, ho3, ho4, rfl, rfl, hn0⟩ := ho
            cases hv : zcpy h a0 a n.toNatClampNeg with
            | none => rw [hv] at hs; cases hs
            | some h1 =>
              rw [hv] at hs; cases hs
              unfold zcpy at hv
              split at hv
              · next c0 c1 hc0 hc1 =>
                obtain ⟨t0, v0⟩ := c0
                obtain ⟨t1, v1⟩ := c1
                split at hv
                · next hcc =>
                  obtain ⟨rfl, rfl, hl0, hl1⟩ := hcc
                  cases hv
                  have hcs := zcat_sum b B st'
                  have hz0 : (0 : Int32).toNatClampNeg = 0 := rfl
                  refine va_copyi (D := D) hx hb (by rw [hml]; exact hL.2.1.1.symm) hown (hts _ (zzat_mem hml1.1.1.1)) (hts _ (zzat_mem hml1.1.2)) (hts _ (zzat_mem hml1.1.1.2)) (hts _ (zzat_mem hml1.2)) hK hP hD hS a0 a 0 0 (ty := .int) (zws_20 hc0) (zws_20 hc1) rfl rfl rfl (by decide) (by decide) hn0 (by rw [hz0]; simpa using hl0) (by rw [hz0]; simpa using hl1) (fun _ _ => rfl) (by omega) (by show _ + (7 + 11) ≤ _; omega) hd (fun H1 locs1 hP1 hD1 hS1 => kk _ _ _ _ _ ?_ hS1 hL (by rw [List.length_set]; exact hn) (by rw [zsz_set hc1 (by simp at hl0 hl1 ⊢; omega)]; exact hm))
                  rw [← zws_set]
                  rw [hz0, ← zcpy_f hl0 hl1] at hP1
                  have e1 : zE b B cI cB cD (20, v0.take n.toNatClampNeg ++ v1.drop n.toNatClampNeg) = .inl (cI, v1.length, .inl (fun j => zi ((v0.take n.toNatClampNeg ++ v1.drop n.toNatClampNeg).getD j .null))) := by
                    have hl : (v0.take n.toNatClampNeg ++ v1.drop n.toNatClampNeg).length = v1.length := by simp at hl0 hl1 ⊢; omega
                    simp only [zE, if_true, hl]
                  rw [e1]
                  exact hP1
                · cases hv
              · cases hv
          · cases hs
        · cases hs
      · next e9 =>
        cases e9
        simp only [zMLc, Bool.and_eq_true] at hml1
        split at hs
        · next y x r =>
          split at hs
          · next ho =>
            cases hs
            have hcs := zcat_sum b B r
            exact va_mmax hx hb (by rw [hml]; exact hL.2.1.1.symm) hown (hts _ (zzat_mem hml1.1.1.1)) (hts _ (zzat_mem hml1.1.1.2)) (hts _ (zzat_mem hml1.1.2)) (hts _ (zzat_mem hml1.2)) (by omega) (by omega) (by omega) (by omega) hd (k0 hP hS hL hn hm)
          · cases hs
        · cases hs
      · next e9 =>
        cases e9
        simp only [zMLc, Bool.and_eq_true] at hml1
        split at hs
        · next y x r =>
          split at hs
          · next ho =>
            cases hs
            have hcs := zcat_sum b B r
            exact va_mmin hx hb (by rw [hml]; exact hL.2.1.1.symm) hown (hts _ (zzat_mem hml1.1.1.1)) (hts _ (zzat_mem hml1.1.1.2)) (hts _ (zzat_mem hml1.1.2)) (hts _ (zzat_mem hml1.2)) (by omega) (by omega) (by omega) (by omega) hd (k0 hP hS hL hn hm)
          · cases hs
        · cases hs
      · cases hs
  all_goals (simp only [zstep] at hs; cases hs)
end ZONE
