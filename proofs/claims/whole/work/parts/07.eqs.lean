/-! ===== the small machine's equations, one an opcode ===== -/
def zaldI (h : ZH) (t a : Nat) (i : Int32) : Option Int32 := match zald h t a i with
  | some (.int x) => some x
  | _ => none
def zaldA (h : ZH) (a : Nat) (i : Int32) : Option Nat := match zald h 22 a i with
  | some (.ref x) => some x
  | _ => none
/-- 0 or 1 -/
def zbk (x : Int32) : Bool := decide (x = 0) || decide (x = 1)
section ZEQ
variable {xs : Nat → Int32} {L mt pc : Nat} {ls st ls' : List Value} {h : ZH}
theorem zq_ic {n : Int} {v : Int32} (hd : decode (zco mt) pc = .ok (.iconst n, 1)) (hv : Int32.ofInt n = v) : zev xs L mt pc ls st h = zev xs L mt (pc + 1) ls (.int v :: st) h := by subst hv; exact zv_step hd rfl rfl rfl rfl
theorem zq_bi {n : Int} {v : Int32} (hd : decode (zco mt) pc = .ok (.bipush n, 2)) (hv : (Int8.ofInt n).toInt32 = v) : zev xs L mt pc ls st h = zev xs L mt (pc + 2) ls (.int v :: st) h := by subst hv; exact zv_step hd rfl rfl rfl rfl
theorem zq_si {n : Int} {v : Int32} (hd : decode (zco mt) pc = .ok (.sipush n, 3)) (hv : (Int16.ofInt n).toInt32 = v) : zev xs L mt pc ls st h = zev xs L mt (pc + 3) ls (.int v :: st) h := by subst hv; exact zv_step hd rfl rfl rfl rfl
theorem zq_lc {n : Fin 2} {v : Int64} (hd : decode (zco mt) pc = .ok (.lconst n, 1)) (hv : Int64.ofNat n.val = v) : zev xs L mt pc ls st h = zev xs L mt (pc + 1) ls (.long v :: st) h := by subst hv; exact zv_step hd rfl rfl rfl rfl
theorem zq_k2 {x : Nat} {v : Int64} (hd : decode (zco mt) pc = .ok (.ldc2_w x, 3)) (hv : zkl (zown mt) x = some v) : zev xs L mt pc ls st h = zev xs L mt (pc + 3) ls (.long v :: st) h := zv_step hd rfl rfl rfl (by simp only [zstep, hv]; rfl)
theorem zq_kw {x : Nat} {v : Int32} (hd : decode (zco mt) pc = .ok (.ldc_w x, 3)) (hv : zki (zown mt) x = some v) : zev xs L mt pc ls st h = zev xs L mt (pc + 3) ls (.int v :: st) h := zv_step hd rfl rfl rfl (by simp only [zstep, hv]; rfl)
theorem zq_iln {k : Fin 4} {x : Int32} (hd : decode (zco mt) pc = .ok (.iload_n k, 1)) (hv : ls[k.val]? = some (.int x)) : zev xs L mt pc ls st h = zev xs L mt (pc + 1) ls (.int x :: st) h := zv_step hd rfl rfl rfl (by simp only [zstep, zli, hv]; rfl)
theorem zq_il {k : Nat} {x : Int32} (hd : decode (zco mt) pc = .ok (.iload k, 2)) (hv : ls[k]? = some (.int x)) : zev xs L mt pc ls st h = zev xs L mt (pc + 2) ls (.int x :: st) h := zv_step hd rfl rfl rfl (by simp only [zstep, zli, hv]; rfl)
theorem zq_lln {k : Fin 4} {x : Int64} (hd : decode (zco mt) pc = .ok (.lload_n k, 1)) (hv : ls[k.val]? = some (.long x)) : zev xs L mt pc ls st h = zev xs L mt (pc + 1) ls (.long x :: st) h := zv_step hd rfl rfl rfl (by simp only [zstep, zll, hv]; rfl)
theorem zq_ll {k : Nat} {x : Int64} (hd : decode (zco mt) pc = .ok (.lload k, 2)) (hv : ls[k]? = some (.long x)) : zev xs L mt pc ls st h = zev xs L mt (pc + 2) ls (.long x :: st) h := zv_step hd rfl rfl rfl (by simp only [zstep, zll, hv]; rfl)
theorem zq_aln {k : Fin 4} {x : Nat} (hd : decode (zco mt) pc = .ok (.aload_n k, 1)) (hv : ls[k.val]? = some (.ref x)) : zev xs L mt pc ls st h = zev xs L mt (pc + 1) ls (.ref x :: st) h := zv_step hd rfl rfl rfl (by simp only [zstep, zla, hv]; rfl)
theorem zq_al {k : Nat} {x : Nat} (hd : decode (zco mt) pc = .ok (.aload k, 2)) (hv : ls[k]? = some (.ref x)) : zev xs L mt pc ls st h = zev xs L mt (pc + 2) ls (.ref x :: st) h := zv_step hd rfl rfl rfl (by simp only [zstep, zla, hv]; rfl)
theorem zq_sln {k : Fin 4} {x : UInt32} (hd : decode (zco mt) pc = .ok (.aload_n k, 1)) (hv : ls[k.val]? = some (.float x)) : zev xs L mt pc ls st h = zev xs L mt (pc + 1) ls (.float x :: st) h := zv_step hd rfl rfl rfl (by simp only [zstep, zla, hv]; rfl)
theorem zq_isn {k : Fin 4} {x : Int32} (hd : decode (zco mt) pc = .ok (.istore_n k, 1)) (hok : zok mt k.val = true) (hl : ls.set k.val (.int x) = ls') : zev xs L mt pc ls (.int x :: st) h = zev xs L mt (pc + 1) ls' st h := by subst hl; exact zv_step hd rfl rfl rfl (by simp only [zstep, hok]; rfl)
theorem zq_is {k : Nat} {x : Int32} (hd : decode (zco mt) pc = .ok (.istore k, 2)) (hok : zok mt k = true) (hl : ls.set k (.int x) = ls') : zev xs L mt pc ls (.int x :: st) h = zev xs L mt (pc + 2) ls' st h := by subst hl; exact zv_step hd rfl rfl rfl (by simp only [zstep, hok]; rfl)
theorem zq_asn {k : Fin 4} {x : Nat} (hd : decode (zco mt) pc = .ok (.astore_n k, 1)) (hok : zok mt k.val = true) (hl : ls.set k.val (.ref x) = ls') : zev xs L mt pc ls (.ref x :: st) h = zev xs L mt (pc + 1) ls' st h := by subst hl; exact zv_step hd rfl rfl rfl (by simp only [zstep, hok]; rfl)
theorem zq_lsn {k : Fin 4} {x : Int64} (hd : decode (zco mt) pc = .ok (.lstore_n k, 1)) (hok : zokl mt k.val = true) (hl : (ls.set k.val (.long x)).set (k.val + 1) .null = ls') : zev xs L mt pc ls (.long x :: st) h = zev xs L mt (pc + 1) ls' st h := by subst hl; exact zv_step hd rfl rfl rfl (by simp only [zstep, hok]; rfl)
theorem zq_ls {k : Nat} {x : Int64} (hd : decode (zco mt) pc = .ok (.lstore k, 2)) (hok : zokl mt k = true) (hl : (ls.set k (.long x)).set (k + 1) .null = ls') : zev xs L mt pc ls (.long x :: st) h = zev xs L mt (pc + 2) ls' st h := by subst hl; exact zv_step hd rfl rfl rfl (by simp only [zstep, hok]; rfl)
theorem zq_inc {k : Nat} {n : Int} {x y : Int32} (hd : decode (zco mt) pc = .ok (.iinc k n, 3)) (hv : ls[k]? = some (.int x)) (hok : zok mt k = true) (hn : x + Int32.ofInt n = y) (hl : ls.set k (.int y) = ls') : zev xs L mt pc ls st h = zev xs L mt (pc + 3) ls' st h := by subst hl; subst hn; exact zv_step hd rfl rfl rfl (by simp only [zstep, zli, hv, hok]; rfl)
theorem zn_1 (x : Int32) : x + Int32.ofInt 1 = x + nI 1 := rfl
theorem zn_m1 (x : Int32) : x + Int32.ofInt (-1) = x - nI 1 := by rw [Int32.sub_eq_add_neg]; rfl
theorem zn_5 (x : Int32) : x + Int32.ofInt 5 = x + nI 5 := rfl
theorem zq_iadd {x y : Int32} (hd : decode (zco mt) pc = .ok (.iadd, 1)) : zev xs L mt pc ls (.int y :: .int x :: st) h = zev xs L mt (pc + 1) ls (.int (x + y) :: st) h := zv_step hd rfl rfl rfl rfl
theorem zq_isub {x y : Int32} (hd : decode (zco mt) pc = .ok (.isub, 1)) : zev xs L mt pc ls (.int y :: .int x :: st) h = zev xs L mt (pc + 1) ls (.int (x - y) :: st) h := zv_step hd rfl rfl rfl rfl
theorem zq_imul {x y : Int32} (hd : decode (zco mt) pc = .ok (.imul, 1)) : zev xs L mt pc ls (.int y :: .int x :: st) h = zev xs L mt (pc + 1) ls (.int (x * y) :: st) h := zv_step hd rfl rfl rfl rfl
theorem zq_iand {x y : Int32} (hd : decode (zco mt) pc = .ok (.iand, 1)) : zev xs L mt pc ls (.int y :: .int x :: st) h = zev xs L mt (pc + 1) ls (.int (x &&& y) :: st) h := zv_step hd rfl rfl rfl rfl
theorem zq_ior {x y : Int32} (hd : decode (zco mt) pc = .ok (.ior, 1)) : zev xs L mt pc ls (.int y :: .int x :: st) h = zev xs L mt (pc + 1) ls (.int (x ||| y) :: st) h := zv_step hd rfl rfl rfl rfl
theorem zq_ixor {x y : Int32} (hd : decode (zco mt) pc = .ok (.ixor, 1)) : zev xs L mt pc ls (.int y :: .int x :: st) h = zev xs L mt (pc + 1) ls (.int (x ^^^ y) :: st) h := zv_step hd rfl rfl rfl rfl
theorem zq_ishl {x y : Int32} (hd : decode (zco mt) pc = .ok (.ishl, 1)) : zev xs L mt pc ls (.int y :: .int x :: st) h = zev xs L mt (pc + 1) ls (.int (x <<< (y &&& 31)) :: st) h := zv_step hd rfl rfl rfl rfl
theorem zq_ishr {x y : Int32} (hd : decode (zco mt) pc = .ok (.ishr, 1)) : zev xs L mt pc ls (.int y :: .int x :: st) h = zev xs L mt (pc + 1) ls (.int (x >>> (y &&& 31)) :: st) h := zv_step hd rfl rfl rfl rfl
theorem zq_iushr {x y : Int32} (hd : decode (zco mt) pc = .ok (.iushr, 1)) : zev xs L mt pc ls (.int y :: .int x :: st) h = zev xs L mt (pc + 1) ls (.int (x.toUInt32 >>> (y.toUInt32 &&& Int32.toUInt32 31)).toInt32 :: st) h := zv_step hd rfl rfl rfl rfl
theorem zq_idiv {x y : Int32} (hd : decode (zco mt) pc = .ok (.idiv, 1)) (hn : ¬ y = 0) : zev xs L mt pc ls (.int y :: .int x :: st) h = zev xs L mt (pc + 1) ls (.int (x / y) :: st) h := zv_step hd rfl rfl rfl (by simp only [zstep, if_neg hn])
theorem zq_irem {x y : Int32} (hd : decode (zco mt) pc = .ok (.irem, 1)) (hn : ¬ y = 0) : zev xs L mt pc ls (.int y :: .int x :: st) h = zev xs L mt (pc + 1) ls (.int (x - x / y * y) :: st) h := zv_step hd rfl rfl rfl (by simp only [zstep, if_neg hn])
theorem zq_ladd {x y : Int64} (hd : decode (zco mt) pc = .ok (.ladd, 1)) : zev xs L mt pc ls (.long y :: .long x :: st) h = zev xs L mt (pc + 1) ls (.long (x + y) :: st) h := zv_step hd rfl rfl rfl rfl
theorem zq_lmul {x y : Int64} (hd : decode (zco mt) pc = .ok (.lmul, 1)) : zev xs L mt pc ls (.long y :: .long x :: st) h = zev xs L mt (pc + 1) ls (.long (x * y) :: st) h := zv_step hd rfl rfl rfl rfl
theorem zq_land {x y : Int64} (hd : decode (zco mt) pc = .ok (.land, 1)) : zev xs L mt pc ls (.long y :: .long x :: st) h = zev xs L mt (pc + 1) ls (.long (x &&& y) :: st) h := zv_step hd rfl rfl rfl rfl
theorem zq_lor {x y : Int64} (hd : decode (zco mt) pc = .ok (.lor, 1)) : zev xs L mt pc ls (.long y :: .long x :: st) h = zev xs L mt (pc + 1) ls (.long (x ||| y) :: st) h := zv_step hd rfl rfl rfl rfl
theorem zq_lrem {x y : Int64} (hd : decode (zco mt) pc = .ok (.lrem, 1)) (hn : ¬ y = 0) : zev xs L mt pc ls (.long y :: .long x :: st) h = zev xs L mt (pc + 1) ls (.long (x - x / y * y) :: st) h := zv_step hd rfl rfl rfl (by simp only [zstep, if_neg hn])
theorem zq_lcmp {x y : Int64} (hd : decode (zco mt) pc = .ok (.lcmp, 1)) : zev xs L mt pc ls (.long y :: .long x :: st) h = zev xs L mt (pc + 1) ls (.int (lg_cmp x y) :: st) h := zv_step hd rfl rfl rfl rfl
theorem zq_lshl {x : Int64} {y : Int32} (hd : decode (zco mt) pc = .ok (.lshl, 1)) : zev xs L mt pc ls (.int y :: .long x :: st) h = zev xs L mt (pc + 1) ls (.long (x <<< (y.toInt64 &&& 63)) :: st) h := zv_step hd rfl rfl rfl rfl
theorem zq_lshr {x : Int64} {y : Int32} (hd : decode (zco mt) pc = .ok (.lshr, 1)) : zev xs L mt pc ls (.int y :: .long x :: st) h = zev xs L mt (pc + 1) ls (.long (x >>> (y.toInt64 &&& 63)) :: st) h := zv_step hd rfl rfl rfl rfl
theorem zq_lushr {x : Int64} {y : Int32} (hd : decode (zco mt) pc = .ok (.lushr, 1)) : zev xs L mt pc ls (.int y :: .long x :: st) h = zev xs L mt (pc + 1) ls (.long (x.toUInt64 >>> (y.toInt64.toUInt64 &&& Int64.toUInt64 63)).toInt64 :: st) h := zv_step hd rfl rfl rfl rfl
theorem zq_i2l {x : Int32} (hd : decode (zco mt) pc = .ok (.i2l, 1)) : zev xs L mt pc ls (.int x :: st) h = zev xs L mt (pc + 1) ls (.long x.toInt64 :: st) h := zv_step hd rfl rfl rfl rfl
theorem zq_l2i {x : Int64} (hd : decode (zco mt) pc = .ok (.l2i, 1)) : zev xs L mt pc ls (.long x :: st) h = zev xs L mt (pc + 1) ls (.int x.toInt32 :: st) h := zv_step hd rfl rfl rfl rfl
theorem zq_i2b {x : Int32} (hd : decode (zco mt) pc = .ok (.i2b, 1)) : zev xs L mt pc ls (.int x :: st) h = zev xs L mt (pc + 1) ls (.int x.toInt8.toInt32 :: st) h := zv_step hd rfl rfl rfl rfl
theorem zq_dupi {x : Int32} (hd : decode (zco mt) pc = .ok (.dup, 1)) : zev xs L mt pc ls (.int x :: st) h = zev xs L mt (pc + 1) ls (.int x :: .int x :: st) h := zv_step hd rfl rfl rfl rfl
theorem zq_dupa {x : Nat} (hd : decode (zco mt) pc = .ok (.dup, 1)) : zev xs L mt pc ls (.ref x :: st) h = zev xs L mt (pc + 1) ls (.ref x :: .ref x :: st) h := zv_step hd rfl rfl rfl rfl
theorem zq_dup2 {x : Int32} {a : Nat} (hd : decode (zco mt) pc = .ok (.dup2, 1)) : zev xs L mt pc ls (.int x :: .ref a :: st) h = zev xs L mt (pc + 1) ls (.int x :: .ref a :: .int x :: .ref a :: st) h := zv_step hd rfl rfl rfl rfl
theorem zq_pop {x : Int32} (hd : decode (zco mt) pc = .ok (.pop, 1)) : zev xs L mt pc ls (.int x :: st) h = zev xs L mt (pc + 1) ls st h := zv_step hd rfl rfl rfl rfl
theorem zq_if {c : Jvm.ClassFile.Cond} {off : Int} {t : Nat} {x : Int32} (hd : decode (zco mt) pc = .ok (.ifCond c off, 3)) (ht : ztg pc off = some t) : zev xs L mt pc ls (.int x :: st) h = if zcz c x = true then zev xs L mt t ls st h else zev xs L mt (pc + 3) ls st h := by
  have e : zstep xs L mt (.ifCond c off) pc ls (.int x :: st) h = some (if zcz c x then t else pc + 3, ls, st, h) := by simp only [zstep, ht]; rfl
  rw [zv_step hd rfl rfl rfl e]
  split <;> rfl
theorem zq_ic2 {c : Jvm.ClassFile.Cond} {off : Int} {t : Nat} {x y : Int32} (hd : decode (zco mt) pc = .ok (.if_icmp c off, 3)) (ht : ztg pc off = some t) : zev xs L mt pc ls (.int y :: .int x :: st) h = if zcc c x y = true then zev xs L mt t ls st h else zev xs L mt (pc + 3) ls st h := by
  have e : zstep xs L mt (.if_icmp c off) pc ls (.int y :: .int x :: st) h = some (if zcc c x y then t else pc + 3, ls, st, h) := by simp only [zstep, ht]; rfl
  rw [zv_step hd rfl rfl rfl e]
  split <;> rfl
theorem zdec {p : Prop} {q : Bool} {α : Type} {A B : α} [Decidable p] (e : q = decide p) : (if q = true then A else B) = if p then A else B := by subst e; by_cases hp : p <;> simp [hp]
theorem zdecn {p : Prop} {q : Bool} {α : Type} {A B : α} [Decidable p] (e : q = decide (¬ p)) : (if q = true then A else B) = if p then B else A := by subst e; by_cases hp : p <;> simp [hp]
theorem zq_go {off : Int} {t : Nat} (hd : decode (zco mt) pc = .ok (.goto off, 3)) (ht : ztg pc off = some t) : zev xs L mt pc ls st h = zev xs L mt t ls st h := zv_step hd rfl rfl rfl (by simp only [zstep, ht]; rfl)
theorem zq_tab {d lo hi : Int} {offs : Array Int} {len : Nat} {x : Int32} (hd : decode (zco mt) pc = .ok (.tableswitch d lo hi offs, len)) {off : Int} {t : Nat} (ho : (if x.toInt < lo ∨ hi < x.toInt then some d else offs[(x.toInt - lo).toNat]?) = some off) (ht : ztg pc off = some t) : zev xs L mt pc ls (.int x :: st) h = zev xs L mt t ls st h := by
  refine zv_step hd rfl rfl rfl ?_
  simp only [zstep]
  split at ho
  · next hh => cases ho; rw [if_pos hh, ht]; rfl
  · next hh => rw [if_neg hh, ho]; simp only [ht]; rfl
theorem zq_lku {d : Int} {ps : Array (Int × Int)} {len : Nat} {x : Int32} (hd : decode (zco mt) pc = .ok (.lookupswitch d ps, len)) {t : Nat} (hp : (ps.toList.zip (ps.toList.drop 1)).all (fun (a, next) => a.1 < next.1) = true) (ht : ztg pc (Op.lookupswitch.offset ps.toList d x.toInt) = some t) : zev xs L mt pc ls (.int x :: st) h = zev xs L mt t ls st h := zv_step hd rfl rfl rfl (by simp only [zstep, hp, ht, if_true]; rfl)
theorem zq_gf {x ci k a : Nat} (hd : decode (zco mt) pc = .ok (.getfield x, 3)) (hf : zfl (zown mt) x = some (ci, k)) : zev xs L mt pc ls (.ref a :: st) h = (zget h a ci k).bind (fun v => zev xs L mt (pc + 3) ls (v :: st) h) := by
  cases hv : zget h a ci k with
  | none => exact zv_none hd rfl rfl rfl (by simp only [zstep, hf, hv]; rfl)
  | some v => exact zv_step hd rfl rfl rfl (by simp only [zstep, hf, hv]; rfl)
theorem zq_pfi {x ci k a : Nat} {v : Int32} (hd : decode (zco mt) pc = .ok (.putfield x, 3)) (hf : zfl (zown mt) x = some (ci, k)) (hp : (zisI ci k && zpf mt ci k) = true) : zev xs L mt pc ls (.int v :: .ref a :: st) h = (zput h a ci k (.int v)).bind (fun h' => zev xs L mt (pc + 3) ls st h') := by
  cases hv : zput h a ci k (.int v) with
  | none => exact zv_none hd rfl rfl rfl (by simp only [zstep, hf, zpv, hp, hv]; rfl)
  | some v => exact zv_step hd rfl rfl rfl (by simp only [zstep, hf, zpv, hp, hv]; rfl)
theorem zq_pfa {x ci k a v : Nat} (hd : decode (zco mt) pc = .ok (.putfield x, 3)) (hf : zfl (zown mt) x = some (ci, k)) (hp : (!zisI ci k && zpf mt ci k) = true) : zev xs L mt pc ls (.ref v :: .ref a :: st) h = (zput h a ci k (.ref v)).bind (fun h' => zev xs L mt (pc + 3) ls st h') := by
  cases hv : zput h a ci k (.ref v) with
  | none => exact zv_none hd rfl rfl rfl (by simp only [zstep, hf, zpv, hp, hv]; rfl)
  | some v => exact zv_step hd rfl rfl rfl (by simp only [zstep, hf, zpv, hp, hv]; rfl)
theorem zq_ia {a : Nat} {i : Int32} (hd : decode (zco mt) pc = .ok (.iaload, 1)) : zev xs L mt pc ls (.int i :: .ref a :: st) h = (zaldI h 20 a i).bind (fun x => zev xs L mt (pc + 1) ls (.int x :: st) h) := by
  unfold zaldI
  split
  · next hv => exact zv_step hd rfl rfl rfl (by simp only [zstep, hv])
  · next hv =>
    exact zv_none hd rfl rfl rfl (by simp only [zstep])
theorem zq_sc {i : Int32} {z : UInt32} (hd : decode (zco mt) pc = .ok (.iaload, 1)) (hi : ¬ i < 0 ∧ i.toNatClampNeg < L) : zev xs L mt pc ls (.int i :: .float z :: st) h = zev xs L mt (pc + 1) ls (.int (xs i.toNatClampNeg) :: st) h := zv_step hd rfl rfl rfl (by simp only [zstep]; rw [if_pos hi])
theorem zq_ba {a : Nat} {i : Int32} (hd : decode (zco mt) pc = .ok (.baload, 1)) : zev xs L mt pc ls (.int i :: .ref a :: st) h = (zaldI h 21 a i).bind (fun x => zev xs L mt (pc + 1) ls (.int x :: st) h) := by
  unfold zaldI
  split
  · next hv => exact zv_step hd rfl rfl rfl (by simp only [zstep, hv])
  · next hv =>
    exact zv_none hd rfl rfl rfl (by simp only [zstep])
theorem zq_aa {a : Nat} {i : Int32} (hd : decode (zco mt) pc = .ok (.aaload, 1)) : zev xs L mt pc ls (.int i :: .ref a :: st) h = (zaldA h a i).bind (fun x => zev xs L mt (pc + 1) ls (.ref x :: st) h) := by
  unfold zaldA
  split
  · next hv => exact zv_step hd rfl rfl rfl (by simp only [zstep, hv])
  · next hv =>
    exact zv_none hd rfl rfl rfl (by simp only [zstep])
theorem zq_ias {a : Nat} {i x : Int32} (hd : decode (zco mt) pc = .ok (.iastore, 1)) : zev xs L mt pc ls (.int x :: .int i :: .ref a :: st) h = (zast h 20 a i (.int x)).bind (fun h' => zev xs L mt (pc + 1) ls st h') := by
  cases hv : zast h 20 a i (.int x) with
  | none => exact zv_none hd rfl rfl rfl (by simp only [zstep, hv]; rfl)
  | some v => exact zv_step hd rfl rfl rfl (by simp only [zstep, hv]; rfl)
theorem zq_bas {a : Nat} {i x : Int32} (hd : decode (zco mt) pc = .ok (.bastore, 1)) : zev xs L mt pc ls (.int x :: .int i :: .ref a :: st) h = (zast h 21 a i (.int (vp_nar .byte x))).bind (fun h' => zev xs L mt (pc + 1) ls st h') := by
  cases hv : zast h 21 a i (.int (vp_nar .byte x)) with
  | none => exact zv_none hd rfl rfl rfl (by simp only [zstep, hv]; rfl)
  | some v => exact zv_step hd rfl rfl rfl (by simp only [zstep, hv]; rfl)
theorem zq_aas {a x : Nat} {i : Int32} (hd : decode (zco mt) pc = .ok (.aastore, 1)) (ht : ztag h x = some 1) : zev xs L mt pc ls (.ref x :: .int i :: .ref a :: st) h = (zast h 22 a i (.ref x)).bind (fun h' => zev xs L mt (pc + 1) ls st h') := by
  cases hv : zast h 22 a i (.ref x) with
  | none => exact zv_none hd rfl rfl rfl (by simp only [zstep, hv, if_pos ht]; rfl)
  | some v => exact zv_step hd rfl rfl rfl (by simp only [zstep, hv, if_pos ht]; rfl)
theorem zq_len {a : Nat} (hd : decode (zco mt) pc = .ok (.arraylength, 1)) : zev xs L mt pc ls (.ref a :: st) h = (zaln h a).bind (fun n => zev xs L mt (pc + 1) ls (.int (nI n) :: st) h) := by
  cases hv : zaln h a with
  | none => exact zv_none hd rfl rfl rfl (by simp only [zstep, hv]; rfl)
  | some v => exact zv_step hd rfl rfl rfl (by simp only [zstep, hv]; rfl)
theorem zq_sln2 {z : UInt32} (hd : decode (zco mt) pc = .ok (.arraylength, 1)) : zev xs L mt pc ls (.float z :: st) h = zev xs L mt (pc + 1) ls (.int (nI L) :: st) h := zv_step hd rfl rfl rfl rfl
theorem zq_na {t : ArrayType} {n : Int32} {k g : Nat} (hd : decode (zco mt) pc = .ok (.newarray t, 2)) (hn : ¬ n < 0 ∧ n.toNatClampNeg ≤ 1000 ∧ (t = .int ∨ t = .byte)) (hk : n.toNatClampNeg = k) (hg : (if t = .int then 20 else 21) = g) : zev xs L mt pc ls (.int n :: st) h = zev xs L mt (pc + 2) ls (.ref h.length :: st) (h ++ [(g, List.replicate k (.int 0))]) := by subst hk; subst hg; exact zv_step hd rfl rfl rfl (by simp only [zstep, if_pos hn])
theorem zq_nq {x : Nat} {n : Int32} {k : Nat} (hd : decode (zco mt) pc = .ok (.anewarray x, 3)) (hn : ¬ n < 0 ∧ n.toNatClampNeg ≤ 1000 ∧ znw (zown mt) x = some 1) (hk : n.toNatClampNeg = k) : zev xs L mt pc ls (.int n :: st) h = zev xs L mt (pc + 3) ls (.ref h.length :: st) (h ++ [(22, List.replicate k .null)]) := by subst hk; exact zv_step hd rfl rfl rfl (by simp only [zstep, if_pos hn])
theorem zq_new {x ci : Nat} {d : List Value} (hd : decode (zco mt) pc = .ok (.new x, 3)) (hw : znw (zown mt) x = some ci) (hdf : zdf ci = d) : zev xs L mt pc ls st h = zev xs L mt (pc + 3) ls (.ref h.length :: st) (h ++ [(ci, d)]) := by subst hdf; exact zv_step hd rfl rfl rfl (by simp only [zstep, hw])
theorem zq_obj {x a : Nat} (hd : decode (zco mt) pc = .ok (.invokespecial x, 3)) (hm : zmk (zown mt) x = some (0, 8)) (hs : st.length ≤ 4) (hf : (decide (1 ≤ zfr mt) && decide (20 ≤ zlo mt)) = true) : zev xs L mt pc ls (.ref a :: st) h = zev xs L mt (pc + 3) ls st h := by
  rw [Bool.and_eq_true, decide_eq_true_eq, decide_eq_true_eq] at hf
  exact zv_step hd rfl (by simp only [zcallee, hm]; rfl) rfl (by simp only [zstep, hm]; rw [if_pos ⟨rfl, hs, hf.1, hf.2⟩])
theorem zq_cpy {x a a0 : Nat} {n : Int32} {k : Nat} (hd : decode (zco mt) pc = .ok (.invokestatic x, 3)) (hm : zmk (zown mt) x = some (0, 9)) (hs : st.length ≤ 4) (hf : (decide (1 ≤ zfr mt) && decide (26 ≤ zlo mt)) = true) (hn : ¬ n < 0) (hk : n.toNatClampNeg = k) : zev xs L mt pc ls (.int n :: .int 0 :: .ref a :: .int 0 :: .ref a0 :: st) h = (zcpy h a0 a k).bind (fun h' => zev xs L mt (pc + 3) ls st h') := by
  subst hk
  rw [Bool.and_eq_true, decide_eq_true_eq, decide_eq_true_eq] at hf
  cases hv : zcpy h a0 a n.toNatClampNeg with
  | none => exact zv_none hd rfl (by simp only [zcallee, hm]; rfl) rfl (by simp only [zstep, hm, Option.map_some]; rw [if_pos ⟨hs, hf.1, hf.2, trivial, trivial, hn⟩, hv]; rfl)
  | some v => exact zv_step hd rfl (by simp only [zcallee, hm]; rfl) rfl (by simp only [zstep, hm, Option.map_some]; rw [if_pos ⟨hs, hf.1, hf.2, trivial, trivial, hn⟩, hv]; rfl)
theorem zq_max {x : Nat} {u v : Int32} (hd : decode (zco mt) pc = .ok (.invokestatic x, 3)) (hm : zmk (zown mt) x = some (0, 10)) (hs : st.length ≤ 4) (hf : (decide (1 ≤ zfr mt) && decide (21 ≤ zlo mt)) = true) : zev xs L mt pc ls (.int v :: .int u :: st) h = zev xs L mt (pc + 3) ls (.int (if u < v then v else u) :: st) h := by
  rw [Bool.and_eq_true, decide_eq_true_eq, decide_eq_true_eq] at hf
  exact zv_step hd rfl (by simp only [zcallee, hm]; rfl) rfl (by simp only [zstep, hm, Option.map_some]; rw [if_pos ⟨hs, hf.1, hf.2⟩])
theorem zq_min {x : Nat} {u v : Int32} (hd : decode (zco mt) pc = .ok (.invokestatic x, 3)) (hm : zmk (zown mt) x = some (0, 11)) (hs : st.length ≤ 4) (hf : (decide (1 ≤ zfr mt) && decide (21 ≤ zlo mt)) = true) : zev xs L mt pc ls (.int v :: .int u :: st) h = zev xs L mt (pc + 3) ls (.int (if v < u then v else u) :: st) h := by
  rw [Bool.and_eq_true, decide_eq_true_eq, decide_eq_true_eq] at hf
  exact zv_step hd rfl (by simp only [zcallee, hm]; rfl) rfl (by simp only [zstep, hm, Option.map_some]; rw [if_pos ⟨hs, hf.1, hf.2⟩])
theorem zq_ri {x : Int32} (hd : decode (zco mt) pc = .ok (.ireturn, 1)) (hr : zrt mt = some .int) : zev xs L mt pc ls [.int x] h = some (some (.int x), h) := zv_ret hd rfl rfl (by simp only [zret, hr, true_or, if_true])
theorem zq_rz {x : Int32} (hd : decode (zco mt) pc = .ok (.ireturn, 1)) (hr : zrt mt = some .boolean) (hx : x = 0 ∨ x = 1) : zev xs L mt pc ls [.int x] h = some (some (.int x), h) := zv_ret hd rfl rfl (by simp only [zret]; rw [if_pos (Or.inr ⟨hr, hx⟩)])
theorem zq_rv (hd : decode (zco mt) pc = .ok (.return_, 1)) (hr : zrt mt = none) : zev xs L mt pc ls [] h = some (none, h) := zv_ret hd rfl rfl (by simp only [zret, hr, if_true])
def zcs (mt cal n k : Nat) (J : List Nat) : Bool := decide (zfr cal + 1 ≤ zfr mt) && decide (8 + (zml cal + 11) + zlo cal ≤ zlo mt) && decide (zna cal = n) && decide (zml cal = k) && decide (zj cal = J)
/-- calls: av the arguments in order, the receiver too -/
theorem zq_call {i : Instr} {cal kind n k : Nat} {J : List Nat} {av rest la : List Value} (hd : decode (zco mt) pc = .ok (i, 3)) (hz : zlen i 3 = true) (hc : zcallee mt i = some (cal, kind)) (hs : zcs mt cal n k J = true) (hr : rest.length ≤ 4) (hn : av.length = n) (hla : zent k av = la) (hll : la.length = k) (hlk : zlok J la = true) (hrc : kind = 1 ∨ kind = 3 ∨ (∃ (a : Nat) (as : List Value), av = .ref a :: as ∧ (kind = 2 ∨ kind = 4 ∨ (kind = 0 ∧ ztag h a = some (zown cal))))) : zev xs L mt pc ls (av.reverse ++ rest) h = (zev xs L cal 0 la [] h).bind (fun q => zev xs L mt (pc + 3) ls (q.1.toList ++ rest) q.2) := by
  unfold zcs at hs
  simp only [Bool.and_eq_true, decide_eq_true_eq] at hs
  obtain ⟨⟨⟨⟨h1, h2⟩, h3⟩, h4⟩, h5⟩ := hs
  have ht : ((av.reverse ++ rest).take (zna cal)).reverse = av := by
    rw [List.take_left' (by rw [List.length_reverse, hn, h3]), List.reverse_reverse]
  refine zv_call hd hz hc ?_ (by rw [ht, h4, hla]) (by rw [List.drop_left' (by rw [List.length_reverse, hn, h3])])
  unfold zcok
  rw [ht, h4, h5, hla]
  simp only [Bool.and_eq_true, decide_eq_true_eq]
  refine ⟨⟨⟨⟨⟨⟨by rw [List.length_append, List.length_reverse]; omega, by rw [List.length_append, List.length_reverse]; omega⟩, h1⟩, by rw [← h4]; exact h2⟩, hlk⟩, hll⟩, ?_⟩
  rcases hrc with rfl | rfl | ⟨a, as, rfl, hk⟩
  · rfl
  · rfl
  · have e : ((.ref a :: as : List Value).reverse ++ rest)[zna cal - 1]? = some (.ref a) := by
      have hl : zna cal = as.length + 1 := by rw [h3, ← hn]; rfl
      rw [List.reverse_cons, List.append_assoc, List.getElem?_append_right (by rw [List.length_reverse]; omega), List.length_reverse, hl]
      simp
    have h0 : 0 < zna cal := by rw [h3, ← hn]; exact Nat.succ_pos _
    rcases hk with rfl | rfl | ⟨rfl, hk⟩
    · simp only [zrcv, e, h0, decide_true]
    · simp only [zrcv, e, h0, decide_true]
    · simp only [zrcv, e, h0, hk, decide_true, Bool.and_self]
theorem zq_rzi {x : Int32} (hd : decode (zco mt) pc = .ok (.ireturn, 1)) (hr : zrt mt = some .boolean) : zev xs L mt pc ls [.int x] h = if zbk x = true then some (some (.int x), h) else none := by
  have ek : zbk x = true ↔ (x = 0 ∨ x = 1) := by unfold zbk; rw [Bool.or_eq_true, decide_eq_true_eq, decide_eq_true_eq]
  by_cases hx : x = 0 ∨ x = 1
  · rw [if_pos (ek.mpr hx)]; exact zq_rz hd hr hx
  · rw [if_neg (fun q => hx (ek.mp q))]
    refine zv_none hd rfl rfl ?_ rfl
    simp only [zret]
    rw [if_neg]
    rintro (q | q)
    · rw [hr] at q; cases q
    · exact hx q.2
theorem zq_idv {x y : Int32} (hd : decode (zco mt) pc = .ok (.idiv, 1)) : zev xs L mt pc ls (.int y :: .int x :: st) h = if y = 0 then none else zev xs L mt (pc + 1) ls (.int (x / y) :: st) h := by
  by_cases hx : y = 0
  · rw [if_pos hx]; exact zv_none hd rfl rfl rfl (by simp only [zstep, if_pos hx])
  · rw [if_neg hx]; exact zq_idiv hd hx
theorem zq_irm {x y : Int32} (hd : decode (zco mt) pc = .ok (.irem, 1)) : zev xs L mt pc ls (.int y :: .int x :: st) h = if y = 0 then none else zev xs L mt (pc + 1) ls (.int (x - x / y * y) :: st) h := by
  by_cases hx : y = 0
  · rw [if_pos hx]; exact zv_none hd rfl rfl rfl (by simp only [zstep, if_pos hx])
  · rw [if_neg hx]; exact zq_irem hd hx
theorem zq_lrm {x y : Int64} (hd : decode (zco mt) pc = .ok (.lrem, 1)) : zev xs L mt pc ls (.long y :: .long x :: st) h = if y = 0 then none else zev xs L mt (pc + 1) ls (.long (x - x / y * y) :: st) h := by
  by_cases hx : y = 0
  · rw [if_pos hx]; exact zv_none hd rfl rfl rfl (by simp only [zstep, if_pos hx])
  · rw [if_neg hx]; exact zq_lrem hd hx
theorem zdge {x y : Int32} {α : Type} {A B : α} : (if decide (y ≤ x) = true then A else B) = if x < y then B else A := by
  by_cases hp : x < y
  · rw [if_pos hp, if_neg (by rw [decide_eq_true_eq, Int32.not_le]; exact hp)]
  · rw [if_neg hp, if_pos (by rw [decide_eq_true_eq, ← Int32.not_lt]; exact hp)]
end ZEQ
