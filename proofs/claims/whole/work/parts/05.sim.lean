/-! ===== the simulation: runs and calls ===== -/
set_option maxHeartbeats 4000000 in
set_option maxRecDepth 100000 in
theorem zstep_mono {xs : Nat → Int32} {L mt pc pc' : Nat} {i : Instr} {ls st ls' st' : List Value} {h h' : ZH} (hs : zstep xs L mt i pc ls st h = some (pc', ls', st', h')) : h.length ≤ h'.length ∧ zsz h ≤ zsz h' := by
  have hput : ∀ {a ci k : Nat} {v : Value} {h1 : ZH}, zput h a ci k v = some h1 → h.length ≤ h1.length ∧ zsz h ≤ zsz h1 := by
    intro a ci k v h1 hv
    obtain ⟨fs, ha, hk, rfl⟩ := zput_ok hv
    exact ⟨by rw [List.length_set]; exact Nat.le_refl _, by rw [zsz_set ha (by simp)]; exact Nat.le_refl _⟩
  have hast : ∀ {t a : Nat} {k : Int32} {v : Value} {h1 : ZH}, zast h t a k v = some h1 → h.length ≤ h1.length ∧ zsz h ≤ zsz h1 := by
    intro t a k v h1 hv
    obtain ⟨vs, ha, hi, hk, rfl⟩ := zast_ok hv
    exact ⟨by rw [List.length_set]; exact Nat.le_refl _, by rw [zsz_set ha (by simp)]; exact Nat.le_refl _⟩
  have hcpy : ∀ {a0 a n : Nat} {h1 : ZH}, zcpy h a0 a n = some h1 → h.length ≤ h1.length ∧ zsz h ≤ zsz h1 := by
    intro a0 a n h1 hv
    unfold zcpy at hv
    split at hv
    · next c0 c1 hc0 hc1 =>
      split at hv
      · next hcc => cases hv; exact ⟨by rw [List.length_set]; exact Nat.le_refl _, by rw [zsz_set hc1 (by simp; omega)]; exact Nat.le_refl _⟩
      · cases hv
    · cases hv
  have happ : ∀ {c0 : ZC}, h.length ≤ (h ++ [c0]).length ∧ zsz h ≤ zsz (h ++ [c0]) := fun {c0} => ⟨by simp, by rw [zsz_app]; exact Nat.le_add_right _ _⟩
  have hrf : h.length ≤ h.length ∧ zsz h ≤ zsz h := ⟨Nat.le_refl _, Nat.le_refl _⟩
  cases i <;> simp only [zstep, Option.map_eq_some_iff] at hs
  all_goals (repeat' (split at hs))
  all_goals (try simp only [Option.map_eq_some_iff] at hs)
  all_goals first
    | (cases hs; done)
    | (cases hs; exact hrf)
    | (cases hs; exact happ)
    | (obtain ⟨_, _, hs⟩ := hs; cases hs; exact hrf)
    | (obtain ⟨_, hv, hs⟩ := hs; cases hs; exact hput hv)
    | (obtain ⟨_, hv, hs⟩ := hs; cases hs; exact hast hv)
    | (obtain ⟨_, hv, hs⟩ := hs; cases hs; exact hcpy hv)
theorem zret_form {mt : Nat} {i : Instr} {st : List Value} {r : Option Value} (h : zret mt i st = some r) : (r = none ∧ i = .return_ ∧ st = [] ∧ zrt mt = none) ∨ ∃ x : Int32, r = some (.int x) ∧ i = .ireturn ∧ st = [.int x] ∧ (zrt mt = some .int ∨ (zrt mt = some .boolean ∧ (x = 0 ∨ x = 1))) := by
  unfold zret at h
  split at h
  · split at h
    · next x =>
      split at h
      · next hx => cases h; exact Or.inr ⟨x, rfl, rfl, rfl, hx⟩
      · cases h
    · cases h
  · split at h
    · split at h
      · next hx => cases h; exact Or.inl ⟨rfl, rfl, rfl, hx⟩
      · cases h
    · cases h
  · cases h
/-- what a run's answer and its heap's size can be -/
theorem zrun_facts {xs : Nat → Int32} {L : Nat} : ∀ (n mt pc : Nat) (ls st : List Value) (h : ZH) (r : Option Value) (hE : ZH), zrun xs L n mt pc ls st h = some (r, hE) → (h.length ≤ hE.length ∧ zsz h ≤ zsz hE) ∧ (r = none ∨ ∃ x : Int32, r = some (.int x)) := by
  intro n
  induction n with
  | zero => intro mt pc ls st h r hE hh; simp [zrun] at hh
  | succ n ih =>
    intro mt pc ls st h r hE hh
    rw [zrun] at hh
    split at hh
    · cases hh
    · next i len hd =>
      split at hh
      · split at hh
        · split at hh
          · split at hh
            · next r1 h1 hr =>
              obtain ⟨⟨a1, a2⟩, -⟩ := ih _ _ _ _ _ _ _ hr
              obtain ⟨⟨b1, b2⟩, b3⟩ := ih _ _ _ _ _ _ _ hh
              exact ⟨⟨by omega, by omega⟩, b3⟩
            · cases hh
          · cases hh
        · split at hh
          · next r1 hr =>
            cases hh
            refine ⟨⟨Nat.le_refl _, Nat.le_refl _⟩, ?_⟩
            rcases zret_form hr with h1 | ⟨x, h1, -⟩
            · exact Or.inl h1.1
            · exact Or.inr ⟨x, h1⟩
          · split at hh
            · next pc' ls' st' h' hs =>
              obtain ⟨a1, a2⟩ := zstep_mono hs
              obtain ⟨⟨b1, b2⟩, b3⟩ := ih _ _ _ _ _ _ _ hh
              exact ⟨⟨by omega, by omega⟩, b3⟩
            · cases hh
      · cases hh
theorem zNW_form {w : Cond} (h : w ∈ zNW) : ∃ (a : String) (i : Nat) (x : MethodName) (o : String), w = .methodLinkNest a i x o := by
  have h2 := (List.mem_filter.mp h).2
  split at h2
  · exact ⟨_, _, _, _, rfl⟩
  · cases h2
theorem zNW_mem {p i : Nat} {a o : String} {x : MethodName} (h : lw_tbl[p]? = some (.methodLinkNest a i x o)) : Cond.methodLinkNest a i x o ∈ zNW := List.mem_filter.mpr ⟨List.mem_of_getElem? h, rfl⟩
/-- what a method finds -/
def zPc (xs : Nat → Int32) (L b B : Nat) (cI cB cD : ClassId) (D : va_G) (av : List Value) (h : ZH) : Array Value → State → Prop :=
  va_Pc (av.map (zv b B)) (fun U => va_P D zcl (zws b B cI cB cD h) U.heap ∧ va_K D zcl [(cI, .int), (cB, .byte), (cD, .object RX1)] U ∧ va_X b L xs U U.heap ∧ b < U.heap.size ∧ U.heap.size = B + h.length ∧ (∀ w ∈ zNW, va_Nw w U) ∧ va_AO RX1 U)
def zQc (b B : Nat) (cI cB cD : ClassId) (D : va_G) (r : Option Value) (hE : ZH) : Array Value → State → Outcome → State → Prop := match r with
  | some (.int x) => va_Qi (fun (y : Int32) (_ : Unit) => y = x) (fun _ t => va_P D zcl (zws b B cI cB cD hE) t.heap) (fun q => B ≤ q)
  | _ => va_Qv (fun (_ : Unit) => True) (fun _ t => va_P D zcl (zws b B cI cB cD hE) t.heap) (fun q => B ≤ q)
def zRm (mt : Nat) (h hE : ZH) : Room := { frames := zfr mt, cells := hE.length - h.length, slots := zsz hE - zsz h, locals := zlo mt }
def zRi (mt : Nat) (r : Option Value) (pc : Nat) : Prop := match r with
  | some (.int x) => decode (zco mt) pc = .ok (.ireturn, 1) ∧ (zrt mt = some .int ∨ (zrt mt = some .boolean ∧ (x = 0 ∨ x = 1)))
  | none => decode (zco mt) pc = .ok (.return_, 1) ∧ zrt mt = none
  | _ => False
/-- the statement of the simulation at a fuel -/
def zSim (xs : Nat → Int32) (L b B : Nat) (cI cB cD : ClassId) (D : va_G) (l : Launch) (n : Nat) : Prop :=
  ∀ (mt pc : Nat) (ls st : List Value) (h : ZH) (r : Option Value) (hE : ZH), zrun xs L n mt pc ls st h = some (r, hE) →
  ∀ (p : Program) (e : Env) (R : Room) (s : State) (m : MethodId) (args : Array Value) (below : List Frame) (meth : Method) (c : Code) (H : Heap) (locs : List Loc) (cells slots : Nat) (Q : State → Prop) (lsA : Array Slot) (z0 : Nat),
  zC xs L b B cI cB cD D p s m args meth c mt → (zfr mt ≤ R.frames ∧ zlo mt ≤ R.locals) → va_P D zcl (zws b B cI cB cD h) H → va_S (fun q => B ≤ q) s.heap H locs → zL b B mt ls lsA → s.heap.size + cells = B + h.length → zsz h = z0 + slots → B + hE.length ≤ s.heap.size + R.cells → zsz hE ≤ z0 + R.slots →
  (∀ (pc' : Nat) (lsA' : Array Slot) (H' : Heap) (locs' : List Loc) (cells' slots' : Nat), zRi mt r pc' → va_P D zcl (zws b B cI cB cD hE) H' → va_S (fun q => B ≤ q) s.heap H' locs' → s.heap.size + cells' = B + hE.length → zsz hE = z0 + slots' → W p l e R s m args below meth c H' locs' cells' slots' Q (F0 m pc' lsA' r.toList)) →
  W p l e R s m args below meth c H locs cells slots Q (F0 m pc lsA (st.map (zv b B)))
def zfm (av : List Value) : List Value := av.flatMap (fun v => if v.category = 2 then [v, .null] else [v])
theorem zent_args (b B : Nat) : ∀ (av : List Value) (i k : Nat) (v : Value), (zfm av)[k]? = some v → v ≠ .null → (i + k, zv b B v) ∈ lv_args i (av.map (zv b B))
  | [], i, k, v, h, _ => by simp [zfm] at h
  | a :: t, i, k, v, h, hn => by
    have ih := zent_args b B t
    have e : zfm (a :: t) = (if a.category = 2 then [a, .null] else [a]) ++ zfm t := by simp [zfm, List.flatMap_cons]
    rw [e] at h
    rw [List.map_cons, lv_args, zv_cat]
    by_cases hc : a.category = 2
    · rw [if_pos hc] at h ⊢
      match k, h with
      | 0, h => simp at h; subst h; exact List.mem_cons_self
      | 1, h => simp at h; exact absurd h.symm hn
      | k + 2, h =>
        have := ih (i + 2) k v (by simpa using h) hn
        rw [show i + (k + 2) = i + 2 + k by omega]
        exact List.mem_cons_of_mem _ this
    · rw [if_neg hc] at h ⊢
      match k, h with
      | 0, h => simp at h; subst h; exact List.mem_cons_self
      | k + 1, h =>
        have := ih (i + 1) k v (by simpa using h) hn
        rw [show i + (k + 1) = i + 1 + k by omega]
        exact List.mem_cons_of_mem _ this
theorem zfm_len (b B : Nat) (av : List Value) : (lg_sl (av.map (zv b B))).length = (zfm av).length := by
  induction av with
  | nil => rfl
  | cons a t ih =>
    unfold lg_sl zfm at *
    rw [List.map_cons, List.flatMap_cons, List.flatMap_cons, List.length_append, List.length_append, ih, zv_cat]
    split <;> rfl
theorem zlok_ok {J : List Nat} {ls : List Value} (h : zlok J ls = true) {i : Nat} {v : Value} (hi : ls[i]? = some v) (hc : v.category = 2) : i ∈ J := by
  unfold zlok at h
  have hm : (v, i) ∈ ls.zipIdx := List.mk_mem_zipIdx_iff_getElem?.mpr hi
  have := List.all_eq_true.mp h _ hm
  simp only [Bool.or_eq_true, decide_eq_true_eq] at this
  rcases this with h1 | h1
  · exact absurd hc h1
  · simpa using h1
theorem z_lower {b B : Nat} {cI cB cD : ClassId} {D : va_G} {h : ZH} {H : Heap} (hP : va_P D zcl (zws b B cI cB cD h) H) (hB : B ≤ H.size) : B + h.length ≤ H.size := by
  cases hh : h.length with
  | zero => omega
  | succ k =>
    have hk : k < h.length := by omega
    have h3 : (zws b B cI cB cD h)[k]? = some (B + k, zE b B cI cB cD h[k]) := by rw [zws_get, List.getElem?_eq_getElem hk]; rfl
    have := (hP _ _ h3).lt
    simp only at this
    omega
section ZMET
variable {xs : Nat → Int32} {L b B : Nat} {cI cB cD : ClassId} {D : va_G} {l : Launch}
set_option maxHeartbeats 4000000 in
theorem zmet {n cal : Nat} (ih : zSim xs L b B cI cB cD D l n) (hbB : b < B) {av : List Value} {h hE : ZH} {r : Option Value} (hrun : zrun xs L n cal 0 (zent (zml cal) av) [] h = some (r, hE)) (hpl : plainName (zy cal).cls = true) (hcls : (zy cal).cls = zcn (zown cal)) (hlk : zlok (zj cal) (zent (zml cal) av) = true) (hlen : (zent (zml cal) av).length = zml cal) :
    Met l (zy cal) (Cond.code (zy cal) (zco cal) (zml cal) (zrt cal) :: zTG) (zRm cal h hE) (zPc xs L b B cI cB cD D av h) (zQc b B cI cB cD D r hE) (hE.length - h.length) (zsz hE - zsz h) (fun q => B ≤ q) := by
  obtain ⟨⟨hf1, hf2⟩, hf3⟩ := zrun_facts _ _ _ _ _ _ _ _ hrun
  refine Met.ofW (cc := zco cal) (maxL := zml cal) (ret := zrt cal) hpl rfl ?_
  intro p e s m args below meth c s₁ Bd hml hv
  obtain ⟨rfl, hP, hK, hX, hbl, hsz, hNw, hAO⟩ := hv
  have hts := atoms_spec (ws := Cond.code (zy cal) (zco cal) (zml cal) (zrt cal) :: zTG) Bd.pre
  have hown : s.vm.findClass (zcn (zown cal)) = some m.cls := by rw [← hcls]; exact findClass_of_methodNamed Bd.named
  have hlocks := Bd.notSynchronized
  have C0 : zC xs L b B cI cB cD D p s m (av.map (zv b B)).toArray meth c cal := ⟨Bd.exec, Bd.bytes, hml, hown, fun w hw => hts w (List.mem_cons_of_mem _ hw), fun hi => by rw [← hi]; exact (name_of_methodNamed Bd.named Bd.method).1, hK, hX, hbl, hbB, by omega, hNw, hAO⟩
  have hfl : (zfm av).length ≤ zml cal := by
    unfold zent at hlen
    rw [List.length_append, List.length_replicate] at hlen
    unfold zfm
    omega
  have hl := lv_entry (av.map (zv b B)) (n := zml cal) (by rw [zfm_len]; exact hfl)
  rw [lg_entry_eq]
  generalize (lg_sl (av.map (zv b B)) ++ List.replicate (zml cal - (lg_sl (av.map (zv b B))).length) Slot.unset).toArray = lsA at hl ⊢
  have hL : zL b B cal (zent (zml cal) av) lsA := by
    refine ⟨hlen, ⟨hl.1, hl.2.1, fun q hq => hl.2.2 q ?_⟩, fun i v hi hc => zlok_ok hlk hi hc⟩
    obtain ⟨k, v, h1, h2, rfl⟩ := zlv_mem.mp hq
    have h3 : (zfm av)[k]? = some v := by
      unfold zent at h1
      rw [List.getElem?_append] at h1
      split at h1
      · exact h1
      · rw [List.getElem?_replicate] at h1
        split at h1
        · cases h1; exact absurd rfl h2
        · cases h1
    exact zent_args b B av 0 k v h3 h2
  refine ih cal 0 _ [] h r hE hrun p e _ s m _ below meth c s.heap [] 0 0 _ lsA (zsz h) C0 ⟨Nat.le_refl _, Nat.le_refl _⟩ hP va_S.rf hL (by omega) rfl (by show _ ≤ _ + (hE.length - h.length); omega) (by show _ ≤ _ + (zsz hE - zsz h); omega) ?_
  intro pc' lsA' H' locs' cells' slots' hri hP' hS' hc' hs'
  have e1 : cells' = hE.length - h.length := by omega
  have e2 : slots' = zsz hE - zsz h := by omega
  subst e1; subst e2
  rcases hf3 with rfl | ⟨x, rfl⟩
  · exact W.vret Bd.exec Bd.bytes (Bd.returns.trans hri.2) (fun t ht hW => ⟨⟨(), rfl, trivial, by show va_P D zcl _ t.heap; rw [ht]; exact hP'⟩, hS'.F ht⟩) hS'.2.2 hri.1 hlocks
  · rcases hri.2 with hi | ⟨hi, hx⟩
    · exact W.zret Bd.exec Bd.bytes (Bd.returns.trans hi) (vp_nar_int x) (fun t ht hW => ⟨⟨x, (), rfl, rfl, by show va_P D zcl _ t.heap; rw [ht]; exact hP'⟩, hS'.F ht⟩) hS'.2.2 hri.1 hlocks
    · exact W.zret Bd.exec Bd.bytes (Bd.returns.trans hi) (by rcases hx with rfl | rfl <;> rfl) (fun t ht hW => ⟨⟨x, (), rfl, rfl, by show va_P D zcl _ t.heap; rw [ht]; exact hP'⟩, hS'.F ht⟩) hS'.2.2 hri.1 hlocks
theorem zPc_blind {av : List Value} {h : ZH} : FrameBlind (zPc xs L b B cI cB cD D av h) := by
  intro a U g mk q
  obtain ⟨q0, qP, qK, qX, q1, q2, qN, qA⟩ := q
  refine ⟨q0, qP, va_K.moved (u := U) (U := U.calling g mk a) (Vm.Alike.refl U.vm) qK, va_X.moved (u := U) (U := U.calling g mk a) (Vm.Alike.refl U.vm) qX, q1, q2, fun w hw => ?_, va_AO.moved (u := U) (U := U.calling g mk a) (Vm.Alike.refl U.vm) qA⟩
  obtain ⟨_, _, _, _, rfl⟩ := zNW_form hw
  exact va_Nw.same rfl (rfl : U.vm = (U.calling g mk a).vm) (qN _ hw)
end ZMET
