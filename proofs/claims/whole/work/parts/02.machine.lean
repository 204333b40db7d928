/-! ===== the small machine: a heap is a list of cells (tag, contents); tags below 9: objects of that class; 20, 21, 22: rows of ints, bytes, days; a reference is a place in the heap; a float stands for the script ===== -/
abbrev ZC : Type := Nat × List Value
abbrev ZH : Type := List ZC
def zm (mt : Nat) : Nat × MethodName × ByteArray × Nat × Option FieldType × Nat × List Nat × Nat × Nat := zms.getD mt (0, yX0_init, cX0_init, 0, none, 0, [], 0, 0)
def zown (mt : Nat) : Nat := (zm mt).1
def zy (mt : Nat) : MethodName := (zm mt).2.1
def zco (mt : Nat) : ByteArray := (zm mt).2.2.1
def zml (mt : Nat) : Nat := (zm mt).2.2.2.1
def zrt (mt : Nat) : Option FieldType := (zm mt).2.2.2.2.1
def zna (mt : Nat) : Nat := (zm mt).2.2.2.2.2.1
def zj (mt : Nat) : List Nat := (zm mt).2.2.2.2.2.2.1
def zfr (mt : Nat) : Nat := (zm mt).2.2.2.2.2.2.2.1
def zlo (mt : Nat) : Nat := (zm mt).2.2.2.2.2.2.2.2
def zfl (o i : Nat) : Option (Nat × Nat) := (zFL.find? (fun q => q.1 == o && q.2.1 == i)).map (fun q => (q.2.2.1, q.2.2.2.1))
def zmk (o i : Nat) : Option (Nat × Nat) := (zML.find? (fun q => q.1 == o && q.2.1 == i)).map (fun q => (q.2.2.1, q.2.2.2.1))
def zki (o i : Nat) : Option Int32 := (zKI.find? (fun q => q.1 == o && q.2.1 == i)).map (fun q => q.2.2.1)
def zkl (o i : Nat) : Option Int64 := (zKL.find? (fun q => q.1 == o && q.2.1 == i)).map (fun q => q.2.2.1)
def znw (o i : Nat) : Option Nat := (zNL.find? (fun q => q.1 == o && q.2.1 == i)).map (fun q => q.2.2.1)
def zT (ci : Nat) : u_T := (zcl.getD ci (RX0, TX0, 7)).2.1
def zN (ci : Nat) : Nat := (zcl.getD ci (RX0, TX0, 7)).2.2
def zisI (ci k : Nat) : Bool := (zT ci k).2.2.1 == "I"
def zisF (ci k : Nat) : Bool := (zT ci k).2.2.2
def zdf (ci : Nat) : List Value := (List.range (zN ci)).map (fun k => if zisI ci k then .int 0 else .null)
/-- how long an instruction is -/
def zlen (i : Instr) (len : Nat) : Bool := match i with
  | .bipush _ | .iload _ | .istore _ | .aload _ | .astore _ | .lload _ | .lstore _ | .newarray _ => len == 2
  | .sipush _ | .ldc_w _ | .ldc2_w _ | .iinc _ _ | .ifCond _ _ | .if_icmp _ _ | .goto _ | .getfield _ | .putfield _ | .invokevirtual _ | .invokestatic _ | .invokespecial _ | .new _ | .anewarray _ => len == 3
  | .tableswitch _ _ _ _ | .lookupswitch _ _ => true
  | _ => len == 1
def zli (ls : List Value) (k : Nat) : Option Int32 := match ls[k]? with
  | some (.int x) => some x
  | _ => none
def zll (ls : List Value) (k : Nat) : Option Int64 := match ls[k]? with
  | some (.long x) => some x
  | _ => none
def zla (ls : List Value) (k : Nat) : Option Value := match ls[k]? with
  | some (.ref a) => some (.ref a)
  | some (.float z) => some (.float z)
  | _ => none
/-- a place that a value of one word may go to -/
def zok (mt k : Nat) : Bool := decide (k < zml mt) && !(zj mt).any (fun j => j + 1 == k)
def zokl (mt k : Nat) : Bool := decide (k + 1 < zml mt) && !(zj mt).any (fun j => j + 1 == k) && (zj mt).contains k
def zget (h : ZH) (a ci j : Nat) : Option Value := match h[a]? with
  | some c => if c.1 = ci then c.2[j]? else none
  | none => none
def zput (h : ZH) (a ci j : Nat) (v : Value) : Option ZH := match h[a]? with
  | some c => if c.1 = ci ∧ j < c.2.length then some (h.set a (c.1, c.2.set j v)) else none
  | none => none
def zald (h : ZH) (t a : Nat) (i : Int32) : Option Value := match h[a]? with
  | some c => if c.1 = t ∧ ¬ i < 0 then c.2[i.toNatClampNeg]? else none
  | none => none
def zast (h : ZH) (t a : Nat) (i : Int32) (v : Value) : Option ZH := match h[a]? with
  | some c => if c.1 = t ∧ ¬ i < 0 ∧ i.toNatClampNeg < c.2.length then some (h.set a (c.1, c.2.set i.toNatClampNeg v)) else none
  | none => none
def zaln (h : ZH) (a : Nat) : Option Nat := match h[a]? with
  | some c => if c.1 = 20 ∨ c.1 = 21 ∨ c.1 = 22 then some c.2.length else none
  | none => none
def ztag (h : ZH) (a : Nat) : Option Nat := (h[a]?).map (fun c => c.1)
/-- the first n of one row of ints over another's -/
def zcpy (h : ZH) (a0 a n : Nat) : Option ZH := match h[a0]?, h[a]? with
  | some c0, some c1 => if c0.1 = 20 ∧ c1.1 = 20 ∧ n ≤ c0.2.length ∧ n ≤ c1.2.length then some (h.set a (20, c0.2.take n ++ c1.2.drop n)) else none
  | _, _ => none
def ztg (pc : Nat) (off : Int) : Option Nat := if (pc : Int) + off = ((((pc : Int) + off).toNat : Nat) : Int) then some ((pc : Int) + off).toNat else none
def zcz (c : Jvm.ClassFile.Cond) (x : Int32) : Bool := match c with
  | .eq => decide (x = 0)
  | .ne => decide (¬ x = 0)
  | .lt => decide (x < 0)
  | .ge => decide (0 ≤ x)
  | .gt => decide (0 < x)
  | .le => decide (x ≤ 0)
def zcc (c : Jvm.ClassFile.Cond) (x y : Int32) : Bool := match c with
  | .eq => decide (x = y)
  | .ne => decide (¬ x = y)
  | .lt => decide (x < y)
  | .ge => decide (y ≤ x)
  | .gt => decide (y < x)
  | .le => decide (x ≤ y)
def zpv (ci k : Nat) (v : Value) : Bool := match v with
  | .int _ => zisI ci k
  | .ref _ => !zisI ci k
  | _ => false
def zpf (mt ci k : Nat) : Bool := !zisF ci k || ((zy mt).name == "<init>" && zown mt == ci)
/-- one instruction that neither calls nor returns -/
def zstep (xs : Nat → Int32) (L mt : Nat) (i : Instr) (pc : Nat) (ls st : List Value) (h : ZH) : Option (Nat × List Value × List Value × ZH) :=
  match i with
  | .iconst n => some (pc + 1, ls, .int (Int32.ofInt n) :: st, h)
  | .bipush n => some (pc + 2, ls, .int (Int8.ofInt n).toInt32 :: st, h)
  | .sipush n => some (pc + 3, ls, .int (Int16.ofInt n).toInt32 :: st, h)
  | .lconst n => some (pc + 1, ls, .long (Int64.ofNat n.val) :: st, h)
  | .ldc_w x => (zki (zown mt) x).map (fun v => (pc + 3, ls, .int v :: st, h))
  | .ldc2_w x => (zkl (zown mt) x).map (fun v => (pc + 3, ls, .long v :: st, h))
  | .iload_n k => (zli ls k.val).map (fun v => (pc + 1, ls, .int v :: st, h))
  | .iload k => (zli ls k).map (fun v => (pc + 2, ls, .int v :: st, h))
  | .lload_n k => (zll ls k.val).map (fun v => (pc + 1, ls, .long v :: st, h))
  | .lload k => (zll ls k).map (fun v => (pc + 2, ls, .long v :: st, h))
  | .aload_n k => (zla ls k.val).map (fun v => (pc + 1, ls, v :: st, h))
  | .aload k => (zla ls k).map (fun v => (pc + 2, ls, v :: st, h))
  | .istore_n k => match st with
    | .int x :: r => if zok mt k.val then some (pc + 1, ls.set k.val (.int x), r, h) else none
    | _ => none
  | .istore k => match st with
    | .int x :: r => if zok mt k then some (pc + 2, ls.set k (.int x), r, h) else none
    | _ => none
  | .astore_n k => match st with
    | .ref x :: r => if zok mt k.val then some (pc + 1, ls.set k.val (.ref x), r, h) else none
    | _ => none
  | .astore k => match st with
    | .ref x :: r => if zok mt k then some (pc + 2, ls.set k (.ref x), r, h) else none
    | _ => none
  | .lstore_n k => match st with
    | .long x :: r => if zokl mt k.val then some (pc + 1, (ls.set k.val (.long x)).set (k.val + 1) .null, r, h) else none
    | _ => none
  | .lstore k => match st with
    | .long x :: r => if zokl mt k then some (pc + 2, (ls.set k (.long x)).set (k + 1) .null, r, h) else none
    | _ => none
  | .iinc k n => match zli ls k with
    | some x => if zok mt k then some (pc + 3, ls.set k (.int (x + Int32.ofInt n)), st, h) else none
    | none => none
  | .iadd => match st with
    | .int y :: .int x :: r => some (pc + 1, ls, .int (x + y) :: r, h)
    | _ => none
  | .isub => match st with
    | .int y :: .int x :: r => some (pc + 1, ls, .int (x - y) :: r, h)
    | _ => none
  | .imul => match st with
    | .int y :: .int x :: r => some (pc + 1, ls, .int (x * y) :: r, h)
    | _ => none
  | .iand => match st with
    | .int y :: .int x :: r => some (pc + 1, ls, .int (x &&& y) :: r, h)
    | _ => none
  | .ior => match st with
    | .int y :: .int x :: r => some (pc + 1, ls, .int (x ||| y) :: r, h)
    | _ => none
  | .ixor => match st with
    | .int y :: .int x :: r => some (pc + 1, ls, .int (x ^^^ y) :: r, h)
    | _ => none
  | .ishl => match st with
    | .int y :: .int x :: r => some (pc + 1, ls, .int (x <<< (y &&& 31)) :: r, h)
    | _ => none
  | .ishr => match st with
    | .int y :: .int x :: r => some (pc + 1, ls, .int (x >>> (y &&& 31)) :: r, h)
    | _ => none
  | .iushr => match st with
    | .int y :: .int x :: r => some (pc + 1, ls, .int (x.toUInt32 >>> (y.toUInt32 &&& Int32.toUInt32 31)).toInt32 :: r, h)
    | _ => none
  | .idiv => match st with
    | .int y :: .int x :: r => if y = 0 then none else some (pc + 1, ls, .int (x / y) :: r, h)
    | _ => none
  | .irem => match st with
    | .int y :: .int x :: r => if y = 0 then none else some (pc + 1, ls, .int (x - x / y * y) :: r, h)
    | _ => none
  | .ladd => match st with
    | .long y :: .long x :: r => some (pc + 1, ls, .long (x + y) :: r, h)
    | _ => none
  | .lmul => match st with
    | .long y :: .long x :: r => some (pc + 1, ls, .long (x * y) :: r, h)
    | _ => none
  | .land => match st with
    | .long y :: .long x :: r => some (pc + 1, ls, .long (x &&& y) :: r, h)
    | _ => none
  | .lor => match st with
    | .long y :: .long x :: r => some (pc + 1, ls, .long (x ||| y) :: r, h)
    | _ => none
  | .lrem => match st with
    | .long y :: .long x :: r => if y = 0 then none else some (pc + 1, ls, .long (x - x / y * y) :: r, h)
    | _ => none
  | .lcmp => match st with
    | .long y :: .long x :: r => some (pc + 1, ls, .int (lg_cmp x y) :: r, h)
    | _ => none
  | .lshl => match st with
    | .int y :: .long x :: r => some (pc + 1, ls, .long (x <<< (y.toInt64 &&& 63)) :: r, h)
    | _ => none
  | .lshr => match st with
    | .int y :: .long x :: r => some (pc + 1, ls, .long (x >>> (y.toInt64 &&& 63)) :: r, h)
    | _ => none
  | .lushr => match st with
    | .int y :: .long x :: r => some (pc + 1, ls, .long (x.toUInt64 >>> (y.toInt64.toUInt64 &&& Int64.toUInt64 63)).toInt64 :: r, h)
    | _ => none
  | .i2l => match st with
    | .int x :: r => some (pc + 1, ls, .long x.toInt64 :: r, h)
    | _ => none
  | .l2i => match st with
    | .long x :: r => some (pc + 1, ls, .int x.toInt32 :: r, h)
    | _ => none
  | .i2b => match st with
    | .int x :: r => some (pc + 1, ls, .int x.toInt8.toInt32 :: r, h)
    | _ => none
  | .dup => match st with
    | .int x :: r => some (pc + 1, ls, .int x :: .int x :: r, h)
    | .ref x :: r => some (pc + 1, ls, .ref x :: .ref x :: r, h)
    | _ => none
  | .dup2 => match st with
    | .int x :: .ref a :: r => some (pc + 1, ls, .int x :: .ref a :: .int x :: .ref a :: r, h)
    | _ => none
  | .pop => match st with
    | .int _ :: r => some (pc + 1, ls, r, h)
    | _ => none
  | .ifCond c off => match st with
    | .int x :: r => (ztg pc off).map (fun t => (if zcz c x then t else pc + 3, ls, r, h))
    | _ => none
  | .if_icmp c off => match st with
    | .int y :: .int x :: r => (ztg pc off).map (fun t => (if zcc c x y then t else pc + 3, ls, r, h))
    | _ => none
  | .goto off => (ztg pc off).map (fun t => (t, ls, st, h))
  | .tableswitch d lo hi offs => match st with
    | .int x :: r => if x.toInt < lo ∨ hi < x.toInt then (ztg pc d).map (fun t => (t, ls, r, h)) else match offs[(x.toInt - lo).toNat]? with
      | some off => (ztg pc off).map (fun t => (t, ls, r, h))
      | none => none
    | _ => none
  | .lookupswitch d ps => match st with
    | .int x :: r => if (ps.toList.zip (ps.toList.drop 1)).all (fun (a, next) => a.1 < next.1) = true then (ztg pc (Op.lookupswitch.offset ps.toList d x.toInt)).map (fun t => (t, ls, r, h)) else none
    | _ => none
  | .getfield x => match st with
    | .ref a :: r => match zfl (zown mt) x with
      | some (ci, k) => (zget h a ci k).map (fun v => (pc + 3, ls, v :: r, h))
      | none => none
    | _ => none
  | .putfield x => match st with
    | v :: .ref a :: r => match zfl (zown mt) x with
      | some (ci, k) => if zpv ci k v && zpf mt ci k then (zput h a ci k v).map (fun h' => (pc + 3, ls, r, h')) else none
      | none => none
    | _ => none
  | .iaload => match st with
    | .int i :: .ref a :: r => match zald h 20 a i with
      | some (.int x) => some (pc + 1, ls, .int x :: r, h)
      | _ => none
    | .int i :: .float _ :: r => if ¬ i < 0 ∧ i.toNatClampNeg < L then some (pc + 1, ls, .int (xs i.toNatClampNeg) :: r, h) else none
    | _ => none
  | .baload => match st with
    | .int i :: .ref a :: r => match zald h 21 a i with
      | some (.int x) => some (pc + 1, ls, .int x :: r, h)
      | _ => none
    | _ => none
  | .aaload => match st with
    | .int i :: .ref a :: r => match zald h 22 a i with
      | some (.ref x) => some (pc + 1, ls, .ref x :: r, h)
      | _ => none
    | _ => none
  | .iastore => match st with
    | .int x :: .int i :: .ref a :: r => (zast h 20 a i (.int x)).map (fun h' => (pc + 1, ls, r, h'))
    | _ => none
  | .bastore => match st with
    | .int x :: .int i :: .ref a :: r => (zast h 21 a i (.int (vp_nar .byte x))).map (fun h' => (pc + 1, ls, r, h'))
    | _ => none
  | .aastore => match st with
    | .ref x :: .int i :: .ref a :: r => if ztag h x = some 1 then (zast h 22 a i (.ref x)).map (fun h' => (pc + 1, ls, r, h')) else none
    | _ => none
  | .arraylength => match st with
    | .ref a :: r => (zaln h a).map (fun n => (pc + 1, ls, .int (Int32.ofNat n) :: r, h))
    | .float _ :: r => some (pc + 1, ls, .int (Int32.ofNat L) :: r, h)
    | _ => none
  | .newarray t => match st with
    | .int n :: r => if ¬ n < 0 ∧ n.toNatClampNeg ≤ 1000 ∧ (t = .int ∨ t = .byte) then some (pc + 2, ls, .ref h.length :: r, h ++ [(if t = .int then 20 else 21, List.replicate n.toNatClampNeg (.int 0))]) else none
    | _ => none
  | .anewarray x => match st with
    | .int n :: r => if ¬ n < 0 ∧ n.toNatClampNeg ≤ 1000 ∧ znw (zown mt) x = some 1 then some (pc + 3, ls, .ref h.length :: r, h ++ [(22, List.replicate n.toNatClampNeg .null)]) else none
    | _ => none
  | .new x => match znw (zown mt) x with
    | some ci => some (pc + 3, ls, .ref h.length :: st, h ++ [(ci, zdf ci)])
    | none => none
  | .invokespecial x => match st with
    | .ref _ :: r => if (zmk (zown mt) x).map (fun q => q.2) = some 8 ∧ r.length ≤ 4 ∧ 1 ≤ zfr mt ∧ 20 ≤ zlo mt then some (pc + 3, ls, r, h) else none
    | _ => none
  | .invokestatic x => match (zmk (zown mt) x).map (fun q => q.2) with
    | some 9 => match st with
      | .int n :: .int dp :: .ref a :: .int sp :: .ref a0 :: r => if r.length ≤ 4 ∧ 1 ≤ zfr mt ∧ 26 ≤ zlo mt ∧ dp = 0 ∧ sp = 0 ∧ ¬ n < 0 then (zcpy h a0 a n.toNatClampNeg).map (fun h' => (pc + 3, ls, r, h')) else none
      | _ => none
    | some 10 => match st with
      | .int y :: .int x :: r => if r.length ≤ 4 ∧ 1 ≤ zfr mt ∧ 21 ≤ zlo mt then some (pc + 3, ls, .int (if x < y then y else x) :: r, h) else none
      | _ => none
    | some 11 => match st with
      | .int y :: .int x :: r => if r.length ≤ 4 ∧ 1 ≤ zfr mt ∧ 21 ≤ zlo mt then some (pc + 3, ls, .int (if y < x then y else x) :: r, h) else none
      | _ => none
    | _ => none
  | _ => none
/-- whom an instruction calls, and how -/
def zcallee (mt : Nat) (i : Instr) : Option (Nat × Nat) := match i with
  | .invokevirtual x => (zmk (zown mt) x).filter (fun q => q.2 == 0)
  | .invokestatic x => (zmk (zown mt) x).filter (fun q => q.2 == 1 || q.2 == 3)
  | .invokespecial x => (zmk (zown mt) x).filter (fun q => q.2 == 2 || q.2 == 4)
  | _ => none
def zent (n : Nat) (args : List Value) : List Value := let a := args.flatMap (fun v => if v.category = 2 then [v, .null] else [v]); a ++ List.replicate (n - a.length) .null
def zlok (J : List Nat) (ls : List Value) : Bool := ls.zipIdx.all (fun q => decide (q.1.category ≠ 2) || J.contains q.2)
def zrcv (kind cal : Nat) (st : List Value) (h : ZH) : Bool := match kind with
  | 0 => match st[zna cal - 1]? with
    | some (.ref a) => decide (0 < zna cal) && decide (ztag h a = some (zown cal))
    | _ => false
  | 2 | 4 => match st[zna cal - 1]? with
    | some (.ref _) => decide (0 < zna cal)
    | _ => false
  | _ => true
def zcok (mt kind cal : Nat) (st : List Value) (h : ZH) : Bool := decide (zna cal ≤ st.length) && decide (st.length ≤ zna cal + 4) && decide (zfr cal + 1 ≤ zfr mt) && decide (8 + (zml cal + 11) + zlo cal ≤ zlo mt) && zlok (zj cal) (zent (zml cal) (st.take (zna cal)).reverse) && decide ((zent (zml cal) (st.take (zna cal)).reverse).length = zml cal) && zrcv kind cal st h
def zret (mt : Nat) (i : Instr) (st : List Value) : Option (Option Value) := match i with
  | .ireturn => match st with
    | [.int x] => if zrt mt = some .int ∨ (zrt mt = some .boolean ∧ (x = 0 ∨ x = 1)) then some (some (.int x)) else none
    | _ => none
  | .return_ => match st with
    | [] => if zrt mt = none then some none else none
    | _ => none
  | _ => none
def zrun (xs : Nat → Int32) (L : Nat) : Nat → Nat → Nat → List Value → List Value → ZH → Option (Option Value × ZH)
  | 0, _, _, _, _, _ => none
  | n + 1, mt, pc, ls, st, h =>
    match decode (zco mt) pc with
    | .error _ => none
    | .ok (i, len) =>
      if zlen i len then
        match zcallee mt i with
        | some (cal, kind) =>
          if zcok mt kind cal st h then
            match zrun xs L n cal 0 (zent (zml cal) (st.take (zna cal)).reverse) [] h with
            | some (r, h1) => zrun xs L n mt (pc + 3) ls (r.toList ++ st.drop (zna cal)) h1
            | none => none
          else none
        | none =>
          match zret mt i st with
          | some r => some (r, h)
          | none =>
            match zstep xs L mt i pc ls st h with
            | some (pc', ls', st', h') => zrun xs L n mt pc' ls' st' h'
            | none => none
      else none
theorem zrun_mono (xs : Nat → Int32) (L : Nat) : ∀ (n mt pc : Nat) (ls st : List Value) (h : ZH) (R : Option Value × ZH), zrun xs L n mt pc ls st h = some R → zrun xs L (n + 1) mt pc ls st h = some R := by
  intro n
  induction n with
  | zero => intro mt pc ls st h R hh; simp [zrun] at hh
  | succ n ih =>
    intro mt pc ls st h R hh
    rw [zrun] at hh ⊢
    split at hh
    · cases hh
    · next i len hd =>
      simp only [hd] at *
      split at hh
      · next hz =>
        rw [if_pos hz]
        split at hh
        · next cal kind hc =>
          simp only [hc] at *
          split at hh
          · next hk =>
            rw [if_pos hk]
            split at hh
            · next r h1 hr =>
              rw [ih _ _ _ _ _ _ hr]
              exact ih _ _ _ _ _ _ hh
            · cases hh
          · cases hh
        · next hc =>
          simp only [hc] at *
          split at hh
          · next r hr => simp only [hr] at *; exact hh
          · next hr =>
            simp only [hr] at *
            split at hh
            · next pc' ls' st' h' hs => simp only [hs] at *; exact ih _ _ _ _ _ _ hh
            · cases hh
      · cases hh
theorem zrun_le (xs : Nat → Int32) (L : Nat) {n k mt pc : Nat} {ls st : List Value} {h : ZH} {R : Option Value × ZH} (hnk : n ≤ k) (hh : zrun xs L n mt pc ls st h = some R) : zrun xs L k mt pc ls st h = some R := by
  induction hnk with
  | refl => exact hh
  | step _ ih => exact zrun_mono xs L _ _ _ _ _ _ _ ih
theorem zrun_det (xs : Nat → Int32) (L : Nat) {n k mt pc : Nat} {ls st : List Value} {h : ZH} {R R' : Option Value × ZH} (h1 : zrun xs L n mt pc ls st h = some R) (h2 : zrun xs L k mt pc ls st h = some R') : R = R' := by
  have a := zrun_le xs L (Nat.le_max_left n k) h1
  have b := zrun_le xs L (Nat.le_max_right n k) h2
  exact Option.some.inj (a.symm.trans b)
/-- what the machine comes to -/
noncomputable def zev (xs : Nat → Int32) (L mt pc : Nat) (ls st : List Value) (h : ZH) : Option (Option Value × ZH) :=
  @dite _ (∃ (R : Option Value × ZH) (n : Nat), zrun xs L n mt pc ls st h = some R) (Classical.propDecidable _) (fun hh => some (Classical.choose hh)) (fun _ => none)
theorem zev_iff {xs : Nat → Int32} {L mt pc : Nat} {ls st : List Value} {h : ZH} {R : Option Value × ZH} : zev xs L mt pc ls st h = some R ↔ ∃ n, zrun xs L n mt pc ls st h = some R := by
  unfold zev
  constructor
  · intro hh
    split at hh
    · next hx =>
      obtain ⟨n, hn⟩ := Classical.choose_spec hx
      rw [Option.some.inj hh] at hn
      exact ⟨n, hn⟩
    · cases hh
  · rintro ⟨n, hn⟩
    have hx : ∃ (R : Option Value × ZH) (n : Nat), zrun xs L n mt pc ls st h = some R := ⟨R, n, hn⟩
    rw [dif_pos hx]
    obtain ⟨k, hk⟩ := Classical.choose_spec hx
    rw [zrun_det xs L hk hn]
theorem zev_ext {xs : Nat → Int32} {L mt pc : Nat} {ls st : List Value} {h : ZH} {o : Option (Option Value × ZH)} (hh : ∀ R, zev xs L mt pc ls st h = some R ↔ o = some R) : zev xs L mt pc ls st h = o := by
  cases o with
  | none =>
    cases hz : zev xs L mt pc ls st h with
    | none => rfl
    | some R => exact absurd ((hh R).mp hz) (by simp)
  | some R => exact (hh R).mpr rfl
theorem zv_step {xs : Nat → Int32} {L mt pc len pc' : Nat} {i : Instr} {ls st ls' st' : List Value} {h h' : ZH} (hd : decode (zco mt) pc = .ok (i, len)) (hz : zlen i len = true) (hc : zcallee mt i = none) (hr : zret mt i st = none) (hs : zstep xs L mt i pc ls st h = some (pc', ls', st', h')) : zev xs L mt pc ls st h = zev xs L mt pc' ls' st' h' := by
  have e : ∀ n, zrun xs L (n + 1) mt pc ls st h = zrun xs L n mt pc' ls' st' h' := fun n => by
    rw [zrun]; simp only [hd, hz, hc, hr, hs, if_true]
  refine zev_ext (fun R => ?_)
  rw [zev_iff, zev_iff]
  constructor
  · rintro ⟨n, hn⟩
    exact ⟨n, by rw [← e]; exact zrun_mono xs L _ _ _ _ _ _ _ hn⟩
  · rintro ⟨n, hn⟩
    exact ⟨n + 1, by rw [e]; exact hn⟩
theorem zv_none {xs : Nat → Int32} {L mt pc len : Nat} {i : Instr} {ls st : List Value} {h : ZH} (hd : decode (zco mt) pc = .ok (i, len)) (hz : zlen i len = true) (hc : zcallee mt i = none) (hr : zret mt i st = none) (hs : zstep xs L mt i pc ls st h = none) : zev xs L mt pc ls st h = none := by
  refine zev_ext (fun R => ?_)
  rw [zev_iff]
  constructor
  · rintro ⟨n, hn⟩
    cases n with
    | zero => simp [zrun] at hn
    | succ n => rw [zrun] at hn; simp only [hd, hz, hc, hr, hs, if_true] at hn; cases hn
  · intro hh; cases hh
theorem zv_ret {xs : Nat → Int32} {L mt pc len : Nat} {i : Instr} {ls st : List Value} {h : ZH} {r : Option Value} (hd : decode (zco mt) pc = .ok (i, len)) (hz : zlen i len = true) (hc : zcallee mt i = none) (hr : zret mt i st = some r) : zev xs L mt pc ls st h = some (r, h) := by
  rw [zev_iff]
  exact ⟨1, by rw [zrun]; simp only [hd, hz, hc, hr, if_true]⟩
theorem zv_call {xs : Nat → Int32} {L mt pc len cal kind : Nat} {i : Instr} {ls st la rest : List Value} {h : ZH} (hd : decode (zco mt) pc = .ok (i, len)) (hz : zlen i len = true) (hc : zcallee mt i = some (cal, kind)) (hk : zcok mt kind cal st h = true) (ha : zent (zml cal) (st.take (zna cal)).reverse = la) (hr : st.drop (zna cal) = rest) : zev xs L mt pc ls st h = (zev xs L cal 0 la [] h).bind (fun q => zev xs L mt (pc + 3) ls (q.1.toList ++ rest) q.2) := by
  subst ha; subst hr
  have e : ∀ n, zrun xs L (n + 1) mt pc ls st h = (zrun xs L n cal 0 (zent (zml cal) (st.take (zna cal)).reverse) [] h).bind (fun q => zrun xs L n mt (pc + 3) ls (q.1.toList ++ st.drop (zna cal)) q.2) := fun n => by
    rw [zrun]; simp only [hd, hz, hc, hk, if_true]
    cases zrun xs L n cal 0 (zent (zml cal) (st.take (zna cal)).reverse) [] h <;> rfl
  refine zev_ext (fun R => ?_)
  rw [zev_iff]
  constructor
  · rintro ⟨n, hn⟩
    have hn := zrun_mono xs L _ _ _ _ _ _ _ hn
    rw [e] at hn
    cases hq : zrun xs L n cal 0 (zent (zml cal) (st.take (zna cal)).reverse) [] h with
    | none => rw [hq] at hn; cases hn
    | some q =>
      rw [hq] at hn
      rw [zev_iff.mpr ⟨n, hq⟩]
      exact zev_iff.mpr ⟨n, hn⟩
  · intro hh
    cases hq : zev xs L cal 0 (zent (zml cal) (st.take (zna cal)).reverse) [] h with
    | none => rw [hq] at hh; cases hh
    | some q =>
      rw [hq] at hh
      obtain ⟨n1, h1⟩ := zev_iff.mp hq
      obtain ⟨n2, h2⟩ := zev_iff.mp hh
      refine ⟨max n1 n2 + 1, ?_⟩
      rw [e, zrun_le xs L (Nat.le_max_left n1 n2) h1]
      exact zrun_le xs L (Nat.le_max_right n1 n2) h2
