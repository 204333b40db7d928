/-! ===== the beginnings: constructors ===== -/
theorem zz_n (n : Nat) : ((20, List.replicate n (.int 0)) : ZC) = zrn n (fun _ => 0) := by
  unfold zrn
  congr 1
  apply List.ext_getElem?
  intro i
  rw [List.getElem?_replicate, List.getElem?_map]
  by_cases h : i < n
  · rw [if_pos h, List.getElem?_range h]; rfl
  · rw [if_neg h, List.getElem?_eq_none (by simpa using Nat.not_lt.mp h)]; rfl
theorem zz_b (t n : Nat) : ((t, List.replicate n (.int 0)) : ZC) = zri t n (fun _ => 0) := by
  unfold zri
  congr 1
  apply List.ext_getElem?
  intro i
  rw [List.getElem?_replicate, List.getElem?_map]
  by_cases h : i < n
  · rw [if_pos h, List.getElem?_range h]; rfl
  · rw [if_neg h, List.getElem?_eq_none (by simpa using Nat.not_lt.mp h)]; rfl
theorem zp_ap {P T U : ZH} {a ci j : Nat} {fs fs' : List Value} {v : Value} (hP : P.length = a) (hj : j < fs.length) (hf : fs.set j v = fs') : zput ((P ++ (ci, fs) :: T) ++ U) a ci j v = some (P ++ (ci, fs') :: (T ++ U)) := by
  subst hP
  rw [List.append_assoc]
  refine zput_of (ci := ci) (fs := fs) ?_ hj hf ?_
  · rw [List.getElem?_append_right (Nat.le_refl _), Nat.sub_self]; rfl
  · rw [List.set_append_right _ _ (Nat.le_refl _), Nat.sub_self]; rfl
theorem zp_m {T U : ZH} {ci j : Nat} {fs fs' : List Value} {v : Value} (hj : j < fs.length) (hf : fs.set j v = fs') : zput (((ci, fs) :: T) ++ U) 0 ci j v = some ((ci, fs') :: (T ++ U)) := zput_of rfl hj hf rfl
section
variable {P T U : ZH} {a : Nat} {v : Nat} {x0 x1 x2 x3 x4 x5 x6 x7 x8 x9 x10 x11 x12 x13 x14 x15 x16 x17 x18 x19 : Value}
theorem zp_0_0 (hP : P.length = a) : zput ((P ++ (0, [x0, x1, x2, x3, x4, x5, x6]) :: T) ++ U) a 0 0 (.ref v) = some (P ++ (0, [.ref v, x1, x2, x3, x4, x5, x6]) :: (T ++ U)) := zp_ap hP (Nat.le_of_ble_eq_true rfl) rfl
theorem zp_0_1 (hP : P.length = a) : zput ((P ++ (0, [x0, x1, x2, x3, x4, x5, x6]) :: T) ++ U) a 0 1 (.ref v) = some (P ++ (0, [x0, .ref v, x2, x3, x4, x5, x6]) :: (T ++ U)) := zp_ap hP (Nat.le_of_ble_eq_true rfl) rfl
theorem zp_0_2 (hP : P.length = a) : zput ((P ++ (0, [x0, x1, x2, x3, x4, x5, x6]) :: T) ++ U) a 0 2 (.ref v) = some (P ++ (0, [x0, x1, .ref v, x3, x4, x5, x6]) :: (T ++ U)) := zp_ap hP (Nat.le_of_ble_eq_true rfl) rfl
theorem zp_0_3 (hP : P.length = a) : zput ((P ++ (0, [x0, x1, x2, x3, x4, x5, x6]) :: T) ++ U) a 0 3 (.ref v) = some (P ++ (0, [x0, x1, x2, .ref v, x4, x5, x6]) :: (T ++ U)) := zp_ap hP (Nat.le_of_ble_eq_true rfl) rfl
theorem zp_0_4 (hP : P.length = a) : zput ((P ++ (0, [x0, x1, x2, x3, x4, x5, x6]) :: T) ++ U) a 0 4 (.ref v) = some (P ++ (0, [x0, x1, x2, x3, .ref v, x5, x6]) :: (T ++ U)) := zp_ap hP (Nat.le_of_ble_eq_true rfl) rfl
theorem zp_1_2 (hP : P.length = a) : zput ((P ++ (1, [x0, x1, x2, x3, x4, x5, x6]) :: T) ++ U) a 1 2 (.ref v) = some (P ++ (1, [x0, x1, .ref v, x3, x4, x5, x6]) :: (T ++ U)) := zp_ap hP (Nat.le_of_ble_eq_true rfl) rfl
theorem zp_1_3 (hP : P.length = a) : zput ((P ++ (1, [x0, x1, x2, x3, x4, x5, x6]) :: T) ++ U) a 1 3 (.ref v) = some (P ++ (1, [x0, x1, x2, .ref v, x4, x5, x6]) :: (T ++ U)) := zp_ap hP (Nat.le_of_ble_eq_true rfl) rfl
theorem zp_1_4 (hP : P.length = a) : zput ((P ++ (1, [x0, x1, x2, x3, x4, x5, x6]) :: T) ++ U) a 1 4 (.ref v) = some (P ++ (1, [x0, x1, x2, x3, .ref v, x5, x6]) :: (T ++ U)) := zp_ap hP (Nat.le_of_ble_eq_true rfl) rfl
theorem zp_1_5 (hP : P.length = a) : zput ((P ++ (1, [x0, x1, x2, x3, x4, x5, x6]) :: T) ++ U) a 1 5 (.ref v) = some (P ++ (1, [x0, x1, x2, x3, x4, .ref v, x6]) :: (T ++ U)) := zp_ap hP (Nat.le_of_ble_eq_true rfl) rfl
theorem zp_1_6 (hP : P.length = a) : zput ((P ++ (1, [x0, x1, x2, x3, x4, x5, x6]) :: T) ++ U) a 1 6 (.ref v) = some (P ++ (1, [x0, x1, x2, x3, x4, x5, .ref v]) :: (T ++ U)) := zp_ap hP (Nat.le_of_ble_eq_true rfl) rfl
theorem zp_2_0 (hP : P.length = a) : zput ((P ++ (2, [x0, x1]) :: T) ++ U) a 2 0 (.ref v) = some (P ++ (2, [.ref v, x1]) :: (T ++ U)) := zp_ap hP (Nat.le_of_ble_eq_true rfl) rfl
theorem zp_3_0 (hP : P.length = a) : zput ((P ++ (3, [x0, x1, x2]) :: T) ++ U) a 3 0 (.ref v) = some (P ++ (3, [.ref v, x1, x2]) :: (T ++ U)) := zp_ap hP (Nat.le_of_ble_eq_true rfl) rfl
theorem zp_3_1 (hP : P.length = a) : zput ((P ++ (3, [x0, x1, x2]) :: T) ++ U) a 3 1 (.ref v) = some (P ++ (3, [x0, .ref v, x2]) :: (T ++ U)) := zp_ap hP (Nat.le_of_ble_eq_true rfl) rfl
theorem zp_4_0 (hP : P.length = a) : zput ((P ++ (4, [x0, x1, x2]) :: T) ++ U) a 4 0 (.ref v) = some (P ++ (4, [.ref v, x1, x2]) :: (T ++ U)) := zp_ap hP (Nat.le_of_ble_eq_true rfl) rfl
theorem zp_5_5 (hP : P.length = a) : zput ((P ++ (5, [x0, x1, x2, x3, x4, x5, x6, x7, x8, x9]) :: T) ++ U) a 5 5 (.ref v) = some (P ++ (5, [x0, x1, x2, x3, x4, .ref v, x6, x7, x8, x9]) :: (T ++ U)) := zp_ap hP (Nat.le_of_ble_eq_true rfl) rfl
theorem zp_5_6 (hP : P.length = a) : zput ((P ++ (5, [x0, x1, x2, x3, x4, x5, x6, x7, x8, x9]) :: T) ++ U) a 5 6 (.ref v) = some (P ++ (5, [x0, x1, x2, x3, x4, x5, .ref v, x7, x8, x9]) :: (T ++ U)) := zp_ap hP (Nat.le_of_ble_eq_true rfl) rfl
theorem zp_5_7 (hP : P.length = a) : zput ((P ++ (5, [x0, x1, x2, x3, x4, x5, x6, x7, x8, x9]) :: T) ++ U) a 5 7 (.ref v) = some (P ++ (5, [x0, x1, x2, x3, x4, x5, x6, .ref v, x8, x9]) :: (T ++ U)) := zp_ap hP (Nat.le_of_ble_eq_true rfl) rfl
theorem zp_5_8 (hP : P.length = a) : zput ((P ++ (5, [x0, x1, x2, x3, x4, x5, x6, x7, x8, x9]) :: T) ++ U) a 5 8 (.ref v) = some (P ++ (5, [x0, x1, x2, x3, x4, x5, x6, x7, .ref v, x9]) :: (T ++ U)) := zp_ap hP (Nat.le_of_ble_eq_true rfl) rfl
theorem zp_5_9 (hP : P.length = a) : zput ((P ++ (5, [x0, x1, x2, x3, x4, x5, x6, x7, x8, x9]) :: T) ++ U) a 5 9 (.ref v) = some (P ++ (5, [x0, x1, x2, x3, x4, x5, x6, x7, x8, .ref v]) :: (T ++ U)) := zp_ap hP (Nat.le_of_ble_eq_true rfl) rfl
theorem zp_6_0 (hP : P.length = a) : zput ((P ++ (6, [x0, x1, x2, x3, x4]) :: T) ++ U) a 6 0 (.ref v) = some (P ++ (6, [.ref v, x1, x2, x3, x4]) :: (T ++ U)) := zp_ap hP (Nat.le_of_ble_eq_true rfl) rfl
theorem zp_6_1 (hP : P.length = a) : zput ((P ++ (6, [x0, x1, x2, x3, x4]) :: T) ++ U) a 6 1 (.ref v) = some (P ++ (6, [x0, .ref v, x2, x3, x4]) :: (T ++ U)) := zp_ap hP (Nat.le_of_ble_eq_true rfl) rfl
theorem zp_6_2 (hP : P.length = a) : zput ((P ++ (6, [x0, x1, x2, x3, x4]) :: T) ++ U) a 6 2 (.ref v) = some (P ++ (6, [x0, x1, .ref v, x3, x4]) :: (T ++ U)) := zp_ap hP (Nat.le_of_ble_eq_true rfl) rfl
theorem zp_8_1 (hP : P.length = a) : zput ((P ++ (8, [x0, x1, x2, x3, x4, x5, x6, x7, x8, x9, x10, x11, x12, x13, x14, x15, x16, x17, x18, x19]) :: T) ++ U) a 8 1 (.ref v) = some (P ++ (8, [x0, .ref v, x2, x3, x4, x5, x6, x7, x8, x9, x10, x11, x12, x13, x14, x15, x16, x17, x18, x19]) :: (T ++ U)) := zp_ap hP (Nat.le_of_ble_eq_true rfl) rfl
theorem zp_8_3 (hP : P.length = a) : zput ((P ++ (8, [x0, x1, x2, x3, x4, x5, x6, x7, x8, x9, x10, x11, x12, x13, x14, x15, x16, x17, x18, x19]) :: T) ++ U) a 8 3 (.ref v) = some (P ++ (8, [x0, x1, x2, .ref v, x4, x5, x6, x7, x8, x9, x10, x11, x12, x13, x14, x15, x16, x17, x18, x19]) :: (T ++ U)) := zp_ap hP (Nat.le_of_ble_eq_true rfl) rfl
theorem zp_8_4 (hP : P.length = a) : zput ((P ++ (8, [x0, x1, x2, x3, x4, x5, x6, x7, x8, x9, x10, x11, x12, x13, x14, x15, x16, x17, x18, x19]) :: T) ++ U) a 8 4 (.ref v) = some (P ++ (8, [x0, x1, x2, x3, .ref v, x5, x6, x7, x8, x9, x10, x11, x12, x13, x14, x15, x16, x17, x18, x19]) :: (T ++ U)) := zp_ap hP (Nat.le_of_ble_eq_true rfl) rfl
theorem zp_8_5 (hP : P.length = a) : zput ((P ++ (8, [x0, x1, x2, x3, x4, x5, x6, x7, x8, x9, x10, x11, x12, x13, x14, x15, x16, x17, x18, x19]) :: T) ++ U) a 8 5 (.ref v) = some (P ++ (8, [x0, x1, x2, x3, x4, .ref v, x6, x7, x8, x9, x10, x11, x12, x13, x14, x15, x16, x17, x18, x19]) :: (T ++ U)) := zp_ap hP (Nat.le_of_ble_eq_true rfl) rfl
theorem zp_8_6 (hP : P.length = a) : zput ((P ++ (8, [x0, x1, x2, x3, x4, x5, x6, x7, x8, x9, x10, x11, x12, x13, x14, x15, x16, x17, x18, x19]) :: T) ++ U) a 8 6 (.ref v) = some (P ++ (8, [x0, x1, x2, x3, x4, x5, .ref v, x7, x8, x9, x10, x11, x12, x13, x14, x15, x16, x17, x18, x19]) :: (T ++ U)) := zp_ap hP (Nat.le_of_ble_eq_true rfl) rfl
theorem zp_8_7 (hP : P.length = a) : zput ((P ++ (8, [x0, x1, x2, x3, x4, x5, x6, x7, x8, x9, x10, x11, x12, x13, x14, x15, x16, x17, x18, x19]) :: T) ++ U) a 8 7 (.ref v) = some (P ++ (8, [x0, x1, x2, x3, x4, x5, x6, .ref v, x8, x9, x10, x11, x12, x13, x14, x15, x16, x17, x18, x19]) :: (T ++ U)) := zp_ap hP (Nat.le_of_ble_eq_true rfl) rfl
theorem zp_8_8 (hP : P.length = a) : zput ((P ++ (8, [x0, x1, x2, x3, x4, x5, x6, x7, x8, x9, x10, x11, x12, x13, x14, x15, x16, x17, x18, x19]) :: T) ++ U) a 8 8 (.ref v) = some (P ++ (8, [x0, x1, x2, x3, x4, x5, x6, x7, .ref v, x9, x10, x11, x12, x13, x14, x15, x16, x17, x18, x19]) :: (T ++ U)) := zp_ap hP (Nat.le_of_ble_eq_true rfl) rfl
theorem zp_8_9 (hP : P.length = a) : zput ((P ++ (8, [x0, x1, x2, x3, x4, x5, x6, x7, x8, x9, x10, x11, x12, x13, x14, x15, x16, x17, x18, x19]) :: T) ++ U) a 8 9 (.ref v) = some (P ++ (8, [x0, x1, x2, x3, x4, x5, x6, x7, x8, .ref v, x10, x11, x12, x13, x14, x15, x16, x17, x18, x19]) :: (T ++ U)) := zp_ap hP (Nat.le_of_ble_eq_true rfl) rfl
theorem zp_8_13 (hP : P.length = a) : zput ((P ++ (8, [x0, x1, x2, x3, x4, x5, x6, x7, x8, x9, x10, x11, x12, x13, x14, x15, x16, x17, x18, x19]) :: T) ++ U) a 8 13 (.ref v) = some (P ++ (8, [x0, x1, x2, x3, x4, x5, x6, x7, x8, x9, x10, x11, x12, .ref v, x14, x15, x16, x17, x18, x19]) :: (T ++ U)) := zp_ap hP (Nat.le_of_ble_eq_true rfl) rfl
theorem zp_8_14 (hP : P.length = a) : zput ((P ++ (8, [x0, x1, x2, x3, x4, x5, x6, x7, x8, x9, x10, x11, x12, x13, x14, x15, x16, x17, x18, x19]) :: T) ++ U) a 8 14 (.ref v) = some (P ++ (8, [x0, x1, x2, x3, x4, x5, x6, x7, x8, x9, x10, x11, x12, x13, .ref v, x15, x16, x17, x18, x19]) :: (T ++ U)) := zp_ap hP (Nat.le_of_ble_eq_true rfl) rfl
theorem zp_8_15 (hP : P.length = a) : zput ((P ++ (8, [x0, x1, x2, x3, x4, x5, x6, x7, x8, x9, x10, x11, x12, x13, x14, x15, x16, x17, x18, x19]) :: T) ++ U) a 8 15 (.ref v) = some (P ++ (8, [x0, x1, x2, x3, x4, x5, x6, x7, x8, x9, x10, x11, x12, x13, x14, .ref v, x16, x17, x18, x19]) :: (T ++ U)) := zp_ap hP (Nat.le_of_ble_eq_true rfl) rfl
theorem zp_8_16 (hP : P.length = a) : zput ((P ++ (8, [x0, x1, x2, x3, x4, x5, x6, x7, x8, x9, x10, x11, x12, x13, x14, x15, x16, x17, x18, x19]) :: T) ++ U) a 8 16 (.ref v) = some (P ++ (8, [x0, x1, x2, x3, x4, x5, x6, x7, x8, x9, x10, x11, x12, x13, x14, x15, .ref v, x17, x18, x19]) :: (T ++ U)) := zp_ap hP (Nat.le_of_ble_eq_true rfl) rfl
theorem zp_8_17 (hP : P.length = a) : zput ((P ++ (8, [x0, x1, x2, x3, x4, x5, x6, x7, x8, x9, x10, x11, x12, x13, x14, x15, x16, x17, x18, x19]) :: T) ++ U) a 8 17 (.ref v) = some (P ++ (8, [x0, x1, x2, x3, x4, x5, x6, x7, x8, x9, x10, x11, x12, x13, x14, x15, x16, .ref v, x18, x19]) :: (T ++ U)) := zp_ap hP (Nat.le_of_ble_eq_true rfl) rfl
theorem zp_8_19 (hP : P.length = a) : zput ((P ++ (8, [x0, x1, x2, x3, x4, x5, x6, x7, x8, x9, x10, x11, x12, x13, x14, x15, x16, x17, x18, x19]) :: T) ++ U) a 8 19 (.ref v) = some (P ++ (8, [x0, x1, x2, x3, x4, x5, x6, x7, x8, x9, x10, x11, x12, x13, x14, x15, x16, x17, x18, .ref v]) :: (T ++ U)) := zp_ap hP (Nat.le_of_ble_eq_true rfl) rfl
theorem zp_7_0 : zput (((7, [x0, x1, x2, x3, x4, x5, x6, x7, x8, x9]) :: T) ++ U) 0 7 0 (.ref v) = some ((7, [.ref v, x1, x2, x3, x4, x5, x6, x7, x8, x9]) :: (T ++ U)) := zp_m (Nat.le_of_ble_eq_true rfl) rfl
theorem zp_7_1 : zput (((7, [x0, x1, x2, x3, x4, x5, x6, x7, x8, x9]) :: T) ++ U) 0 7 1 (.ref v) = some ((7, [x0, .ref v, x2, x3, x4, x5, x6, x7, x8, x9]) :: (T ++ U)) := zp_m (Nat.le_of_ble_eq_true rfl) rfl
theorem zp_7_2 : zput (((7, [x0, x1, x2, x3, x4, x5, x6, x7, x8, x9]) :: T) ++ U) 0 7 2 (.ref v) = some ((7, [x0, x1, .ref v, x3, x4, x5, x6, x7, x8, x9]) :: (T ++ U)) := zp_m (Nat.le_of_ble_eq_true rfl) rfl
theorem zp_7_3 : zput (((7, [x0, x1, x2, x3, x4, x5, x6, x7, x8, x9]) :: T) ++ U) 0 7 3 (.ref v) = some ((7, [x0, x1, x2, .ref v, x4, x5, x6, x7, x8, x9]) :: (T ++ U)) := zp_m (Nat.le_of_ble_eq_true rfl) rfl
theorem zp_7_4 : zput (((7, [x0, x1, x2, x3, x4, x5, x6, x7, x8, x9]) :: T) ++ U) 0 7 4 (.ref v) = some ((7, [x0, x1, x2, x3, .ref v, x5, x6, x7, x8, x9]) :: (T ++ U)) := zp_m (Nat.le_of_ble_eq_true rfl) rfl
theorem zp_7_5 : zput (((7, [x0, x1, x2, x3, x4, x5, x6, x7, x8, x9]) :: T) ++ U) 0 7 5 (.ref v) = some ((7, [x0, x1, x2, x3, x4, .ref v, x6, x7, x8, x9]) :: (T ++ U)) := zp_m (Nat.le_of_ble_eq_true rfl) rfl
theorem zp_7_6 : zput (((7, [x0, x1, x2, x3, x4, x5, x6, x7, x8, x9]) :: T) ++ U) 0 7 6 (.ref v) = some ((7, [x0, x1, x2, x3, x4, x5, .ref v, x7, x8, x9]) :: (T ++ U)) := zp_m (Nat.le_of_ble_eq_true rfl) rfl
theorem zp_7_7 : zput (((7, [x0, x1, x2, x3, x4, x5, x6, x7, x8, x9]) :: T) ++ U) 0 7 7 (.ref v) = some ((7, [x0, x1, x2, x3, x4, x5, x6, .ref v, x8, x9]) :: (T ++ U)) := zp_m (Nat.le_of_ble_eq_true rfl) rfl
theorem zp_7_8 : zput (((7, [x0, x1, x2, x3, x4, x5, x6, x7, x8, x9]) :: T) ++ U) 0 7 8 (.ref v) = some ((7, [x0, x1, x2, x3, x4, x5, x6, x7, .ref v, x9]) :: (T ++ U)) := zp_m (Nat.le_of_ble_eq_true rfl) rfl
theorem zp_7_9 : zput (((7, [x0, x1, x2, x3, x4, x5, x6, x7, x8, x9]) :: T) ++ U) 0 7 9 (.ref v) = some ((7, [x0, x1, x2, x3, x4, x5, x6, x7, x8, .ref v]) :: (T ++ U)) := zp_m (Nat.le_of_ble_eq_true rfl) rfl
end
def zoA (n : Nat) : ZH := [(0, [.ref (n + 1), .ref (n + 2), .ref (n + 3), .ref (n + 4), .ref (n + 5), .int 0, .int 0]), zrn 6 (fun _ => 0), zrn 6 (fun _ => 0), zrn 30 (fun _ => 0), zrn 6 (fun _ => 0), zrn 6 (fun _ => 0)]
def zoD (n : Nat) : ZH := [(1, [.int 0, .int 0, .ref (n + 1), .ref (n + 2), .ref (n + 3), .ref (n + 4), .ref (n + 5)]), zrn 6 (fun _ => 0), zrn 6 (fun _ => 0), zrn 6 (fun _ => 0), zrn 6 (fun _ => 0), zrn 30 (fun _ => 0)]
def zoS (n : Nat) : ZH := [(3, [.ref (n + 1), .ref (n + 2), .int 0]), zrn 6 (fun _ => 0), zrn 6 (fun _ => 0)]
def zoT (n : Nat) : ZH := [(4, [.ref (n + 1), .int 0, .int 0]), zrn 300 (fun _ => 0)]
def zoW (n : Nat) : ZH := [(5, [.int 0, .int 0, .int 0, .int 0, .int 0, .ref (n + 1), .ref (n + 2), .ref (n + 3), .ref (n + 4), .ref (n + 5)]), zrn 5 (fun _ => 0), zrn 5 (fun _ => 0), zrn 5 (fun _ => 0), zrn 6 (fun _ => 0), zrn 30 (fun _ => 0)]
def zoY (n : Nat) : ZH := [(6, [.ref (n + 1), .ref (n + 2), .ref (n + 3), .int 0, .int 0]), zrn 6 (fun _ => 0), zrn 6 (fun _ => 0), zrn 36 (fun _ => 0)]
section
variable {xs : Nat → Int32} {L : Nat} {h : ZH}
theorem n_0 : zev xs L 0 0 [.ref h.length] [] (h ++ [(0, [.null, .null, .null, .null, .null, .int 0, .int 0])]) = some (none, h ++ zoA h.length) := by
  have hP : h.length = h.length := rfl
  unfold zoA
  simp (disch := first | omega | rfl) only [q0_0, q0_1, q0_4, q0_5, q0_7, q0_9, q0_12, q0_13, q0_15, q0_17, q0_20, q0_21, q0_23, q0_25, q0_28, q0_29, q0_31, q0_33, q0_36, q0_37, q0_39, q0_41, q0_44, zp_0_0, zp_0_1, zp_0_2, zp_0_3, zp_0_4, Option.bind_some, List.length_append, List.length_cons, List.length_nil, Nat.zero_add, Nat.reduceAdd, List.nil_append, List.cons_append, zz_n]
theorem n_1 : zev xs L 13 0 [.ref h.length] [] (h ++ [(1, [.int 0, .int 0, .null, .null, .null, .null, .null])]) = some (none, h ++ zoD h.length) := by
  have hP : h.length = h.length := rfl
  unfold zoD
  simp (disch := first | omega | rfl) only [q13_0, q13_1, q13_4, q13_5, q13_7, q13_9, q13_12, q13_13, q13_15, q13_17, q13_20, q13_21, q13_23, q13_25, q13_28, q13_29, q13_31, q13_33, q13_36, q13_37, q13_39, q13_41, q13_44, zp_1_2, zp_1_3, zp_1_4, zp_1_5, zp_1_6, Option.bind_some, List.length_append, List.length_cons, List.length_nil, Nat.zero_add, Nat.reduceAdd, List.nil_append, List.cons_append, zz_n]
theorem n_3 : zev xs L 25 0 [.ref h.length] [] (h ++ [(3, [.null, .null, .int 0])]) = some (none, h ++ zoS h.length) := by
  have hP : h.length = h.length := rfl
  unfold zoS
  simp (disch := first | omega | rfl) only [q25_0, q25_1, q25_4, q25_5, q25_7, q25_9, q25_12, q25_13, q25_15, q25_17, q25_20, zp_3_0, zp_3_1, Option.bind_some, List.length_append, List.length_cons, List.length_nil, Nat.zero_add, Nat.reduceAdd, List.nil_append, List.cons_append, zz_n]
theorem n_4 : zev xs L 29 0 [.ref h.length] [] (h ++ [(4, [.null, .int 0, .int 0])]) = some (none, h ++ zoT h.length) := by
  have hP : h.length = h.length := rfl
  unfold zoT
  simp (disch := first | omega | rfl) only [q29_0, q29_1, q29_4, q29_5, q29_8, q29_10, q29_13, zp_4_0, Option.bind_some, List.length_append, List.length_cons, List.length_nil, Nat.zero_add, Nat.reduceAdd, List.nil_append, List.cons_append, zz_n]
theorem n_5 : zev xs L 39 0 [.ref h.length] [] (h ++ [(5, [.int 0, .int 0, .int 0, .int 0, .int 0, .null, .null, .null, .null, .null])]) = some (none, h ++ zoW h.length) := by
  have hP : h.length = h.length := rfl
  unfold zoW
  simp (disch := first | omega | rfl) only [q39_0, q39_1, q39_4, q39_5, q39_6, q39_8, q39_11, q39_12, q39_13, q39_15, q39_18, q39_19, q39_20, q39_22, q39_25, q39_26, q39_28, q39_30, q39_33, q39_34, q39_36, q39_38, q39_41, zp_5_5, zp_5_6, zp_5_7, zp_5_8, zp_5_9, Option.bind_some, List.length_append, List.length_cons, List.length_nil, Nat.zero_add, Nat.reduceAdd, List.nil_append, List.cons_append, zz_n]
theorem n_6 : zev xs L 47 0 [.ref h.length] [] (h ++ [(6, [.null, .null, .null, .int 0, .int 0])]) = some (none, h ++ zoY h.length) := by
  have hP : h.length = h.length := rfl
  unfold zoY
  simp (disch := first | omega | rfl) only [q47_0, q47_1, q47_4, q47_5, q47_7, q47_9, q47_12, q47_13, q47_15, q47_17, q47_20, q47_21, q47_23, q47_25, q47_28, zp_6_0, zp_6_1, zp_6_2, Option.bind_some, List.length_append, List.length_cons, List.length_nil, Nat.zero_add, Nat.reduceAdd, List.nil_append, List.cons_append, zz_n]
end
/-! shelves -/
def zdl (b : Nat) : Nat → ZH
  | 0 => []
  | d + 1 => zdl b d ++ zoD (b + 6 * d)
theorem zdl_l {b : Nat} : ∀ {d : Nat}, (zdl b d).length = 6 * d
  | 0 => rfl
  | d + 1 => by unfold zdl; rw [List.length_append, zdl_l]; show 6 * d + 6 = _; omega
def zvs (r n d : Nat) : List Value := (List.range r).map (fun j => if j < d then .ref (n + 2 + 6 * j) else .null)
theorem zvs_l {r n d : Nat} : (zvs r n d).length = r := by simp [zvs]
theorem zvs_0 {r n : Nat} : List.replicate r .null = zvs r n 0 := by
  unfold zvs
  apply List.ext_getElem?
  intro i
  rw [List.getElem?_replicate, List.getElem?_map]
  by_cases h : i < r
  · rw [if_pos h, List.getElem?_range h]; rfl
  · rw [if_neg h, List.getElem?_eq_none (by simpa using Nat.not_lt.mp h)]; rfl
theorem zvs_s {r n d : Nat} (hd : d < r) : (zvs r n d).set d (.ref (n + 2 + 6 * d)) = zvs r n (d + 1) := by
  unfold zvs
  apply List.ext_getElem?
  intro i
  rw [List.getElem?_set, List.getElem?_map, List.getElem?_map, List.length_map, List.length_range]
  by_cases h : i < r
  · rw [List.getElem?_range h]
    by_cases e : d = i
    · subst e; rw [if_pos rfl, if_pos hd]; simp
    · rw [if_neg e]
      show some (if i < d then Value.ref (n + 2 + 6 * i) else Value.null) = some (if i < d + 1 then Value.ref (n + 2 + 6 * i) else Value.null)
      congr 1
      by_cases c : i < d
      · rw [if_pos c, if_pos (by omega)]
      · rw [if_neg c, if_neg (by omega)]
  · rw [List.getElem?_eq_none (by simpa using Nat.not_lt.mp h), if_neg (by omega)]; rfl
theorem zvs_r {r n : Nat} : ((22, zvs r n r) : ZC) = zra r (fun j => n + 2 + 6 * j) := by
  unfold zvs zra
  congr 1
  apply List.map_congr_left
  intro j hj
  rw [if_pos (List.mem_range.mp hj)]
def zoH (r n : Nat) : ZH := (2, [.ref (n + 1), .int 0]) :: zra r (fun j => n + 2 + 6 * j) :: zdl (n + 2) r
/-- while the days are made -/
def zsS (h : ZH) (r d : Nat) : ZH := h ++ (2, [.ref (h.length + 1), .int 0]) :: (22, zvs r h.length d) :: zdl (h.length + 2) d
section
variable {xs : Nat → Int32} {L : Nat} {h : ZH} {r d : Nat}
theorem zsS_l : (zsS h r d).length = h.length + 2 + 6 * d := by unfold zsS; rw [List.length_append, List.length_cons, List.length_cons, zdl_l]; omega
theorem zsS_g : zget (zsS h r d) h.length 2 0 = some (.ref (h.length + 1)) := zget_of (ci := 2) (fs := [.ref (h.length + 1), .int 0]) (by unfold zsS; rw [List.getElem?_append_right (Nat.le_refl _), Nat.sub_self]; rfl) rfl
theorem zsS_n : zaln (zsS h r d) (h.length + 1) = some r := by
  have e : (zsS h r d)[h.length + 1]? = some (22, zvs r h.length d) := by
    unfold zsS; rw [List.getElem?_append_right (by omega), show h.length + 1 - h.length = 1 by omega]; rfl
  simp [zaln, e, zvs_l]
theorem zsS_t : ztag (zsS h r d ++ zoD (h.length + 2 + 6 * d)) (h.length + 2 + 6 * d) = some 1 := by
  have hl := zsS_l (h := h) (r := r) (d := d)
  refine ztag_of (t := 1) (vs := [.int 0, .int 0, .ref (h.length + 2 + 6 * d + 1), .ref (h.length + 2 + 6 * d + 2), .ref (h.length + 2 + 6 * d + 3), .ref (h.length + 2 + 6 * d + 4), .ref (h.length + 2 + 6 * d + 5)]) ?_
  rw [List.getElem?_append_right (by omega), show h.length + 2 + 6 * d - (zsS h r d).length = 0 by omega]
  rfl
theorem zsS_s (hd : d < r) (hr : r ≤ 8) : zast (zsS h r d ++ zoD (h.length + 2 + 6 * d)) 22 (h.length + 1) (nI d) (.ref (h.length + 2 + 6 * d)) = some (zsS h r (d + 1)) := by
  refine zast_v (vs := zvs r h.length d) ?_ (by rw [zvs_l]; exact hd) (by omega) (zvs_s hd) ?_
  · unfold zsS
    rw [List.append_assoc, List.getElem?_append_right (by omega), show h.length + 1 - h.length = 1 by omega]
    rfl
  · unfold zsS
    rw [List.append_assoc, List.set_append_right _ _ (by omega), show h.length + 1 - h.length = 1 by omega]
    rfl
theorem n_2L (hr : r ≤ 8) {v1 : Value} : ∀ k d, d + k = r → zev xs L 21 18 [.ref h.length, v1, .int (nI d)] [] (zsS h r d) = some (none, zsS h r r) := by
  intro k
  induction k with
  | zero =>
    intro d hd; obtain rfl : d = r := by omega
    simp (disch := omega) only [q21_18, q21_19, q21_20, q21_23, q21_24, q21_46, zsS_g, zsS_n, Option.bind_some, zn_lt, Nat.lt_irrefl, if_false]
  | succ k ih =>
    intro d hd
    have en := n_1 (xs := xs) (L := L) (h := zsS h r d)
    rw [zsS_l] at en
    have es := zsS_s (h := h) (show d < r by omega) hr
    have et := zsS_t (h := h) (r := r) (d := d)
    have hlt : d < r := by omega
    rw [q21_18]
    simp (disch := first | omega | exact et) only [q21_19, q21_20, q21_23, q21_24, q21_27, q21_28, q21_31, q21_32, q21_35, q21_36, q21_39, q21_40, q21_43, zsS_g, zsS_n, zsS_l, en, es, hlt, Option.bind_some, Option.toList_none, List.nil_append, zn_lt, nI_add, if_true]
    exact ih (d + 1) (by omega)
theorem n_2 (hr : r = 8 ∨ r = 2) : zev xs L 21 0 [.ref h.length, .int (nI r), .null] [] (h ++ [(2, [.null, .int 0])]) = some (none, h ++ zoH r h.length) := by
  have hP : h.length = h.length := rfl
  have e := n_2L (xs := xs) (L := L) (h := h) (r := r) (v1 := .int (nI r)) (by omega) r 0 (by omega)
  have h1 : 1 < r := by omega
  have e0 : zsS h r 0 = h ++ [(2, [.ref (h.length + 1), .int 0]), (22, zvs r h.length 0)] := rfl
  have eE : zsS h r r = h ++ zoH r h.length := by unfold zsS zoH; rw [zvs_r]
  rw [e0, ← zvs_0] at e
  rw [← eE]
  simp (disch := first | omega | rfl) only [q21_0, q21_1, q21_4, q21_5, q21_6, q21_7, q21_10, q21_13, q21_16, q21_17, zp_2_0, h1, zn_lt, if_true, Option.bind_some, List.length_append, List.length_cons, List.length_nil, Nat.zero_add, Nat.reduceAdd, List.nil_append, List.cons_append]
  exact e
end
