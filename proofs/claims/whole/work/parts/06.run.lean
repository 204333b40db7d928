/-! ===== the simulation: all runs ===== -/
theorem zcn_eq {ci : Nat} (h : ci < 9) : zCn ci = zcn ci := by
  match ci, h with
  | 0, _ | 1, _ | 2, _ | 3, _ | 4, _ | 5, _ | 6, _ | 7, _ | 8, _ => rfl
  | k + 9, h => omega
section ZRUN
variable {xs : Nat → Int32} {L b B : Nat} {cI cB cD : ClassId} {D : va_G} {l : Launch}
variable {p : Program} {e : Env} {R : Room} {s : State} {m : MethodId} {args : Array Value} {below : List Frame} {meth : Method} {c : Code} {H : Heap} {locs : List Loc} {cells slots : Nat} {Q : State → Prop}
theorem zpre {mt : Nat} {av : List Value} {h : ZH} (C0 : zC xs L b B cI cB cD D p s m args meth c mt) (hP : va_P D zcl (zws b B cI cB cD h) H) (hS : va_S (fun q => B ≤ q) s.heap H locs) (hsz : H.size = B + h.length) (U : State) (hU : U.heap = H) (hW : s.WarmedH U.vm) : zPc xs L b B cI cB cD D av h (av.map (zv b B)).toArray U := by
  obtain ⟨hx, hb, hml, hown, hts, hin, hK, hX, hbl, hbB, hBs, hNw, hAO⟩ := C0
  refine ⟨rfl, by rw [hU]; exact hP, va_K.moved hW.alike hK, ?_, by rw [hU]; exact Nat.lt_of_lt_of_le hbl hS.1, by rw [hU]; exact hsz, fun w hw => ?_, va_AO.moved hW.alike hAO⟩
  · rw [hU]
    exact (hX.moved hW.alike).kept (hS.2.1 b hbl (Nat.not_le.mpr hbB))
  · obtain ⟨_, _, _, _, rfl⟩ := zNW_form hw
    exact va_Nw.warmM hW (hNw _ hw)
set_option maxHeartbeats 4000000 in
set_option maxRecDepth 100000 in
/-- a call, whichever way -/
theorem zcall {n mt pc cal kind : Nat} {i : Instr} {ls st : List Value} {h h1 : ZH} {r1 : Option Value} {lsA : Array Slot} (ih : zSim xs L b B cI cB cD D l n)
    (C0 : zC xs L b B cI cB cD D p s m args meth c mt) (hR : zfr mt ≤ R.frames ∧ zlo mt ≤ R.locals) (hd : decode (zco mt) pc = .ok (i, 3)) (hc : zcallee mt i = some (cal, kind)) (hk : zcok mt kind cal st h = true)
    (hrun : zrun xs L n cal 0 (zent (zml cal) (st.take (zna cal)).reverse) [] h = some (r1, h1))
    (hP : va_P D zcl (zws b B cI cB cD h) H) (hS : va_S (fun q => B ≤ q) s.heap H locs) (hL : zL b B mt ls lsA) (hsz : H.size = B + h.length)
    (hf : cells + (h1.length - h.length) ≤ R.cells ∧ slots + (zsz h1 - zsz h) ≤ R.slots) :
    va_Run p l e R s m args below meth c H locs cells slots (h1.length - h.length) (zsz h1 - zsz h) (F0 m pc lsA (st.map (zv b B))) ((st.drop (zna cal)).map (zv b B)) (zQc b B cI cB cD D r1 h1 (((st.take (zna cal)).reverse).map (zv b B)).toArray) (fun q => B ≤ q) := by
  have C1 := C0
  obtain ⟨hx, hb, hml, hown, hts, hin, hK, hX, hbl, hbB, hBs, hNw, hAO⟩ := C1
  unfold zcok at hk
  simp only [Bool.and_eq_true, decide_eq_true_eq] at hk
  obtain ⟨⟨⟨⟨⟨⟨hk1, hk2⟩, hk3⟩, hk4⟩, hk5⟩, hk6⟩, hk7⟩ := hk
  have hrs : ((((st.drop (zna cal)).map (zv b B))).map fun v => v.category).sum ≤ 8 := by
    have := zcat_sum b B (st.drop (zna cal))
    rw [List.length_drop] at this
    omega
  have hst : st.map (zv b B) = (((st.take (zna cal)).reverse).map (zv b B)).reverse ++ (st.drop (zna cal)).map (zv b B) := by
    rw [← List.map_reverse, List.reverse_reverse, ← List.map_append, List.take_append_drop]
  have hlA : lsA.size = zml mt := hL.2.1.1
  have hmc : (zRm cal h h1).cells = h1.length - h.length := rfl
  have hms : (zRm cal h h1).slots = zsz h1 - zsz h := rfl
  have hRR : (zRm cal h h1).frames + 1 ≤ R.frames ∧ 8 + (zml cal + 11) + (zRm cal h h1).locals ≤ R.locals := ⟨by show zfr cal + 1 ≤ _; omega, by show 8 + (zml cal + 11) + zlo cal ≤ _; omega⟩
  have key : ∀ x : Nat, zmk (zown mt) x = some (cal, kind) → ∃ q : Nat × Nat × Nat × Nat × Nat, zMLc (zown mt, x, cal, kind, q) = true := fun x hx => zmk_in hx
  have hMH : ∀ {y : MethodName}, zMH y = true → y.cls ≠ "java/lang/invoke/MethodHandle" ∧ y.cls ≠ "java/lang/invoke/VarHandle" := by
    intro y hy
    unfold zMH at hy
    simp only [Bool.and_eq_true, Bool.not_eq_true', beq_eq_false_iff_ne] at hy
    exact hy
  have hrc : ∀ a : Nat, 0 < zna cal → st[zna cal - 1]? = some (.ref a) → (st.take (zna cal)).reverse = .ref a :: (st.take (zna cal - 1)).reverse := by
    intro a h0 ha
    have : st.take (zna cal) = st.take (zna cal - 1) ++ [.ref a] := by
      have hl : zna cal - 1 < st.length := by omega
      rw [show zna cal = (zna cal - 1) + 1 by omega, List.take_add_one, show (zna cal - 1) + 1 - 1 = zna cal - 1 by omega, ha]
      rfl
    rw [this, List.reverse_append]
    rfl
  have hln : ∀ a : Nat, 0 < zna cal → (((st.take (zna cal - 1)).reverse).map (zv b B)).length = zna cal - 1 := by
    intro a h0
    rw [List.length_map, List.length_reverse, List.length_take]
    omega
  cases i <;> simp only [zcallee] at hc <;> try (cases hc; done)
  case invokevirtual x =>
    obtain ⟨hmk, hkd⟩ := Option.filter_eq_some_iff.mp hc
    simp only [beq_iff_eq] at hkd
    subst hkd
    obtain ⟨⟨p1, p2, p3, p4, p5⟩, hm1⟩ := key x hmk
    simp only [zMLc, Bool.and_eq_true, decide_eq_true_eq, beq_iff_eq] at hm1
    obtain ⟨⟨⟨⟨⟨⟨h1a, h1b⟩, h1c⟩, h1d⟩, h1e⟩, h1f⟩, ⟨⟨⟨⟨⟨g1, g2⟩, g3⟩, g4⟩, g5⟩, g6⟩⟩ := hm1
    have hcd := zCD_ok cal (by simpa using h1c)
    unfold zrcv at hk7
    simp only at hk7
    split at hk7
    · next a ha =>
      simp only [Bool.and_eq_true, decide_eq_true_eq] at hk7
      obtain ⟨fs, hfs⟩ := ztag_ok hk7.2
      have hav := hrc a g6 ha
      have hM := zmet ih hbB hrun h1e h1f hk5 hk6
      rw [hav] at hM hst ⊢
      have hgi : GoodIn zTG (wsV (zcn (zown mt)) x (zy cal).cls (zy cal) (Cond.code (zy cal) (zco cal) (zml cal) (zrt cal) :: zTG)) := zTG_in (by
        intro w hw
        unfold wsV at hw
        simp only [List.cons_append, List.nil_append, List.mem_cons] at hw
        rcases hw with rfl | rfl | rfl | rfl | rfl | hw
        · exact zzat_mem g1
        · exact zzat_mem g2
        · exact zzat_mem g3
        · exact zzat_mem h1b
        · exact hcd
        · exact hw)
      have hrv := va_recv hK hP (ci := zown cal) (q := (zCn (zown cal), zT (zown cal), zN (zown cal))) (q0 := a) (zcl_at g4) (zws_obj g4 hfs)
      simp only [zcn_eq g4, ← h1f] at hrv
      exact va_runV (As := ((st.take (zna cal - 1)).reverse).map (zv b B)) ⟨hx, hb, hml, hown, hts⟩ hM (cwV (zna cal - 1) hts hgi rfl hmc hms ⟨rfl, (hMH h1d).1, (hMH h1d).2, g5⟩ hRR) ⟨zPc_blind, hrv, fun U hU hW => zpre C0 hP hS hsz U hU hW⟩ rfl (hln a g6) hlA (by rw [hst]; simp [zv]) (lv_room hrs) hd hf
    · cases hk7
  case invokestatic x =>
    obtain ⟨hmk, hkd⟩ := Option.filter_eq_some_iff.mp hc
    simp only [Bool.or_eq_true, beq_iff_eq] at hkd
    obtain ⟨⟨p1, p2, p3, p4, p5⟩, hm1⟩ := key x hmk
    rcases hkd with hkd | hkd
    · subst hkd
      simp only [zMLc, Bool.and_eq_true, decide_eq_true_eq, beq_iff_eq] at hm1
      obtain ⟨⟨⟨⟨⟨⟨h1a, h1b⟩, h1c⟩, h1d⟩, h1e⟩, h1f⟩, ⟨⟨g1, g2⟩, g3⟩⟩ := hm1
      have hcd := zCD_ok cal (by simpa using h1c)
      have hM := zmet ih hbB hrun h1e h1f hk5 hk6
      have hgi : GoodIn zTG (va_wsS (zcn (zown mt)) x (zy cal) (Cond.code (zy cal) (zco cal) (zml cal) (zrt cal) :: zTG)) := zTG_in (by
        intro w hw
        unfold va_wsS at hw
        simp only [List.cons_append, List.nil_append, List.mem_cons] at hw
        rcases hw with rfl | rfl | rfl | rfl | hw
        · exact zzat_mem g1
        · exact zzat_mem g2
        · exact zzat_mem h1b
        · exact hcd
        · exact hw)
      exact va_runS (As := ((st.take (zna cal)).reverse).map (zv b B)) ⟨hx, hb, hml, hown, hts⟩ hM (va_cwS (zna cal) hts hgi rfl hmc hms ⟨(hMH h1d).1, (hMH h1d).2, g3⟩ hRR) ⟨zPc_blind, fun U hU hW => zpre C0 hP hS hsz U hU hW⟩ rfl (by rw [List.length_map, List.length_reverse, List.length_take]; omega) hlA hst (lv_room hrs) hd hf
    · subst hkd
      simp only [zMLc, Bool.and_eq_true, decide_eq_true_eq, beq_iff_eq] at hm1
      obtain ⟨⟨⟨⟨⟨⟨h1a, h1b⟩, h1c⟩, h1d⟩, h1e⟩, h1f⟩, ⟨⟨g1, g2⟩, g3⟩⟩ := hm1
      have hcd := zCD_ok cal (by simpa using h1c)
      have hM := zmet ih hbB hrun h1e h1f hk5 hk6
      have hgi : GoodIn zTG (Cond.code (zy cal) (zco cal) (zml cal) (zrt cal) :: zTG) := zTG_in (by
        intro w hw
        rcases List.mem_cons.mp hw with rfl | hw
        · exact hcd
        · exact hw)
      exact va_runSN (As := ((st.take (zna cal)).reverse).map (zv b B)) ⟨hx, hb, hml, hown, hts⟩ hM ⟨va_cnB (zna cal) hts hgi rfl hmc hms (hNw _ (zNW_mem g1)) (hts _ (zzat_mem h1b)) ⟨(hMH h1d).1, (hMH h1d).2, g3⟩ hRR, hts _ (zzat_mem g2), trivial⟩ ⟨zPc_blind, fun U hU hW => zpre C0 hP hS hsz U hU hW⟩ rfl (by rw [List.length_map, List.length_reverse, List.length_take]; omega) hlA hst (lv_room hrs) hd hf
  case invokespecial x =>
    obtain ⟨hmk, hkd⟩ := Option.filter_eq_some_iff.mp hc
    simp only [Bool.or_eq_true, beq_iff_eq] at hkd
    obtain ⟨⟨p1, p2, p3, p4, p5⟩, hm1⟩ := key x hmk
    rcases hkd with hkd | hkd
    · subst hkd
      simp only [zMLc, Bool.and_eq_true, decide_eq_true_eq, beq_iff_eq] at hm1
      obtain ⟨⟨⟨⟨⟨⟨h1a, h1b⟩, h1c⟩, h1d⟩, h1e⟩, h1f⟩, ⟨⟨⟨⟨⟨g1, g2⟩, g3⟩, g4⟩, g5⟩, g6⟩⟩ := hm1
      have hcd := zCD_ok cal (by simpa using h1c)
      unfold zrcv at hk7
      simp only at hk7
      split at hk7
      · next a ha =>
        have hav := hrc a g6 ha
        have hM := zmet ih hbB hrun h1e h1f hk5 hk6
        rw [hav] at hM hst ⊢
        rw [g4] at hM hcd
        have hgi : GoodIn zTG (Cond.code (zy cal) (zco cal) (zml cal) none :: zTG) := zTG_in (by
          intro w hw
          rcases List.mem_cons.mp hw with rfl | hw
          · exact hcd
          · exact hw)
        exact va_runI (b := B + a) (As := ((st.take (zna cal - 1)).reverse).map (zv b B)) ⟨hx, hb, hml, hown, hts⟩ hM (cwI (zna cal - 1) hts hgi rfl hmc hms (hts _ (zzat_mem h1b)) (hts _ (zzat_mem g1)) (hts _ (zzat_mem g2)) g3 ⟨(hMH h1d).1, (hMH h1d).2, g5⟩ hRR) ⟨zPc_blind, fun U hU hW => zpre C0 hP hS hsz U hU hW⟩ rfl (hln a g6) hlA (by rw [hst]; simp [zv]) (lv_room hrs) hd hf
      · cases hk7
    · subst hkd
      simp only [zMLc, Bool.and_eq_true, decide_eq_true_eq, beq_iff_eq] at hm1
      obtain ⟨⟨⟨⟨⟨⟨h1a, h1b⟩, h1c⟩, h1d⟩, h1e⟩, h1f⟩, ⟨⟨⟨⟨⟨g1, g2⟩, g3⟩, g4⟩, g5⟩, g6⟩⟩ := hm1
      have hcd := zCD_ok cal (by simpa using h1c)
      unfold zrcv at hk7
      simp only at hk7
      split at hk7
      · next a ha =>
        have hav := hrc a g6 ha
        have hM := zmet ih hbB hrun h1e h1f hk5 hk6
        rw [hav] at hM hst ⊢
        rw [g4] at hM hcd
        have hgi : GoodIn zTG (Cond.code (zy cal) (zco cal) (zml cal) none :: zTG) := zTG_in (by
          intro w hw
          rcases List.mem_cons.mp hw with rfl | hw
          · exact hcd
          · exact hw)
        exact va_runIN (b := B + a) (As := ((st.take (zna cal - 1)).reverse).map (zv b B)) ⟨hx, hb, hml, hown, hts⟩ hM ⟨va_cnB (zna cal - 1) hts hgi rfl hmc hms (hNw _ (zNW_mem g1)) (hts _ (zzat_mem h1b)) ⟨(hMH h1d).1, (hMH h1d).2, g5⟩ hRR, g3, hts _ (zzat_mem g2)⟩ ⟨zPc_blind, fun U hU hW => zpre C0 hP hS hsz U hU hW⟩ rfl (hln a g6) hlA (by rw [hst]; simp [zv]) (lv_room hrs) hd hf
      · cases hk7
set_option maxHeartbeats 4000000 in
theorem zsim_all : ∀ n : Nat, zSim xs L b B cI cB cD D l n := by
  intro n
  induction n with
  | zero => intro mt pc ls st h r hE hh; simp [zrun] at hh
  | succ n ih =>
    intro mt pc ls st h r hE hh p e R s m args below meth c H locs cells slots Q lsA z0 C0 hR hP hS hL hn hm hnE hmE hret
    have hfE := (zrun_facts _ _ _ _ _ _ _ _ hh).1
    rw [zrun] at hh
    split at hh
    · cases hh
    · next i len hd =>
      split at hh
      · next hz =>
        split at hh
        · next cal kind hc =>
          split at hh
          · next hk =>
            split at hh
            · next r1 h1 hr =>
              have hlen : len = 3 := by
                cases i <;> simp only [zcallee] at hc <;> first | (cases hc; done) | (simpa [zlen] using hz)
              subst hlen
              obtain ⟨⟨f1, f2⟩, f3⟩ := zrun_facts _ _ _ _ _ _ _ _ hr
              obtain ⟨⟨f4, f5⟩, -⟩ := zrun_facts _ _ _ _ _ _ _ _ hh
              refine zW_sz (fun hsz1 => ?_)
              have hBs : B ≤ s.heap.size := C0.2.2.2.2.2.2.2.2.2.2.1
              have hsz : H.size = B + h.length := Nat.le_antisymm (by omega) (z_lower hP (Nat.le_trans hBs hS.1))
              have hRun := zcall (p := p) (e := e) (R := R) (below := below) (cells := cells) (slots := slots) ih C0 hR hd hc hk hr hP hS hL hsz ⟨by omega, by omega⟩
              have fin : ∀ (H1 : Heap) (locs1 : List Loc), va_P D zcl (zws b B cI cB cD h1) H1 → va_S (fun q => B ≤ q) s.heap H1 locs1 → W p l e R s m args below meth c H1 locs1 (cells + (h1.length - h.length)) (slots + (zsz h1 - zsz h)) Q (F0 m (pc + 3) lsA ((r1.toList ++ st.drop (zna cal)).map (zv b B))) :=
                fun H1 locs1 hP1 hS1 => ih _ _ _ _ _ _ _ hh p e R s m args below meth c H1 locs1 _ _ Q lsA z0 C0 hR hP1 hS1 hL (by omega) (by omega) hnE hmE hret
              rcases f3 with rfl | ⟨x, rfl⟩
              · exact va_callv (a := (((st.take (zna cal)).reverse).map (zv b B)).toArray) hRun hS (fun q _ hq => hq) (fun q hq => hq) (fun u t H1 locs1 ht hvm hw hB hz1 hk1 hS1 => fin H1 locs1 (by rw [← ht]; exact hB) hS1)
              · refine va_calli (a := (((st.take (zna cal)).reverse).map (zv b B)).toArray) hRun hS (fun q _ hq => hq) (fun q hq => hq) (fun y u t H1 locs1 ht hvm hw hB hz1 hk1 hS1 => ?_)
                have hw : y = x := hw
                subst hw
                exact fin H1 locs1 (by rw [← ht]; exact hB) hS1
            · cases hh
          · cases hh
        · next hc =>
          split at hh
          · next r1 hr =>
            cases hh
            rcases zret_form hr with ⟨rfl, rfl, rfl, ht⟩ | ⟨x, rfl, rfl, rfl, ht⟩
            · simp only [zlen, beq_iff_eq] at hz
              subst hz
              exact hret pc lsA H locs cells slots ⟨hd, ht⟩ hP hS hn hm
            · simp only [zlen, beq_iff_eq] at hz
              subst hz
              exact hret pc lsA H locs cells slots ⟨hd, ht⟩ hP hS hn hm
          · split at hh
            · next pc' ls' st' h' hs =>
              obtain ⟨⟨f4, f5⟩, -⟩ := zrun_facts _ _ _ _ _ _ _ _ hh
              exact zs_one C0 hR hd hz hs hP hS hL hn hm (by omega) (by omega) (fun H' locs' lsA' cells' slots' hP' hS' hL' hn' hm' => ih _ _ _ _ _ _ _ hh p e R s m args below meth c H' locs' cells' slots' Q lsA' z0 C0 hR hP' hS' hL' hn' hm' hnE hmE hret)
            · cases hh
      · cases hh
end ZRUN
