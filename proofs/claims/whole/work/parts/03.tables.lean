/-! ===== the tables of the small machine are the Statement's words ===== -/
def zTG : List Cond := lw_tbl.filter goodWord
def zzat (p : Nat) (w : Cond) : Bool := decide (lw_tbl[p]? = some w) && goodWord w
theorem zzat_mem {p : Nat} {w : Cond} (h : zzat p w = true) : w ∈ zTG := by
  unfold zzat at h
  rw [Bool.and_eq_true, decide_eq_true_eq] at h
  exact List.mem_filter.mpr ⟨List.mem_of_getElem? h.1, h.2⟩
theorem zTG_good {w : Cond} (h : w ∈ zTG) : ((w.onTables && w.keeps) = true ∨ ∃ ty, w = .arrayClass ty) := good_of_word (List.mem_filter.mp h).2
theorem zTG_in {ws : List Cond} (h : ∀ w ∈ ws, w ∈ zTG) : GoodIn zTG ws := fun w hw => ⟨h w hw, zTG_good (h w hw)⟩
def zFLc (q : Nat × Nat × Nat × Nat × Nat) : Bool := zzat q.2.2.2.2 (.fieldLink (zcn q.1) q.2.1 (zT q.2.2.1 q.2.2.2.1).1 (zT q.2.2.1 q.2.2.2.1).2.1 (zT q.2.2.1 q.2.2.2.1).2.2.1) && decide (q.2.2.1 < 9) && decide (q.2.2.2.1 < zN q.2.2.1)
set_option maxRecDepth 100000 in
theorem zFL_ok : zFL.all zFLc = true := by decide +kernel
theorem zfl_ok {o i ci k : Nat} (h : zfl o i = some (ci, k)) : ci < 9 ∧ k < zN ci ∧ Cond.fieldLink (zcn o) i (zT ci k).1 (zT ci k).2.1 (zT ci k).2.2.1 ∈ zTG := by
  unfold zfl at h
  cases hf : zFL.find? (fun q => q.1 == o && q.2.1 == i) with
  | none => rw [hf] at h; cases h
  | some q =>
    rw [hf] at h
    have hm := List.mem_of_find?_eq_some hf
    have hp := List.find?_some hf
    simp only [Bool.and_eq_true, beq_iff_eq] at hp
    have hc := List.all_eq_true.mp zFL_ok q hm
    unfold zFLc at hc
    simp only [Bool.and_eq_true, decide_eq_true_eq] at hc
    simp only [Option.map_some, Option.some.injEq, Prod.mk.injEq] at h
    obtain ⟨h1, h2⟩ := h
    rw [h1, h2, hp.1, hp.2] at hc
    exact ⟨hc.1.2, hc.2, zzat_mem hc.1.1⟩
set_option maxRecDepth 100000 in
theorem zcd_0 : Cond.code (zy 0) (zco 0) (zml 0) (zrt 0) ∈ zTG := List.mem_filter.mpr ⟨List.mem_of_getElem? (i := 229) rfl, rfl⟩
set_option maxRecDepth 100000 in
theorem zcd_1 : Cond.code (zy 1) (zco 1) (zml 1) (zrt 1) ∈ zTG := List.mem_filter.mpr ⟨List.mem_of_getElem? (i := 551) rfl, rfl⟩
set_option maxRecDepth 100000 in
theorem zcd_2 : Cond.code (zy 2) (zco 2) (zml 2) (zrt 2) ∈ zTG := List.mem_filter.mpr ⟨List.mem_of_getElem? (i := 569) rfl, rfl⟩
set_option maxRecDepth 100000 in
theorem zcd_3 : Cond.code (zy 3) (zco 3) (zml 3) (zrt 3) ∈ zTG := List.mem_filter.mpr ⟨List.mem_of_getElem? (i := 565) rfl, rfl⟩
set_option maxRecDepth 100000 in
theorem zcd_4 : Cond.code (zy 4) (zco 4) (zml 4) (zrt 4) ∈ zTG := List.mem_filter.mpr ⟨List.mem_of_getElem? (i := 575) rfl, rfl⟩
set_option maxRecDepth 100000 in
theorem zcd_5 : Cond.code (zy 5) (zco 5) (zml 5) (zrt 5) ∈ zTG := List.mem_filter.mpr ⟨List.mem_of_getElem? (i := 561) rfl, rfl⟩
set_option maxRecDepth 100000 in
theorem zcd_6 : Cond.code (zy 6) (zco 6) (zml 6) (zrt 6) ∈ zTG := List.mem_filter.mpr ⟨List.mem_of_getElem? (i := 557) rfl, rfl⟩
set_option maxRecDepth 100000 in
theorem zcd_7 : Cond.code (zy 7) (zco 7) (zml 7) (zrt 7) ∈ zTG := List.mem_filter.mpr ⟨List.mem_of_getElem? (i := 579) rfl, rfl⟩
set_option maxRecDepth 100000 in
theorem zcd_8 : Cond.code (zy 8) (zco 8) (zml 8) (zrt 8) ∈ zTG := List.mem_filter.mpr ⟨List.mem_of_getElem? (i := 587) rfl, rfl⟩
set_option maxRecDepth 100000 in
theorem zcd_9 : Cond.code (zy 9) (zco 9) (zml 9) (zrt 9) ∈ zTG := List.mem_filter.mpr ⟨List.mem_of_getElem? (i := 598) rfl, rfl⟩
set_option maxRecDepth 100000 in
theorem zcd_10 : Cond.code (zy 10) (zco 10) (zml 10) (zrt 10) ∈ zTG := List.mem_filter.mpr ⟨List.mem_of_getElem? (i := 602) rfl, rfl⟩
set_option maxRecDepth 100000 in
theorem zcd_11 : Cond.code (zy 11) (zco 11) (zml 11) (zrt 11) ∈ zTG := List.mem_filter.mpr ⟨List.mem_of_getElem? (i := 606) rfl, rfl⟩
set_option maxRecDepth 100000 in
theorem zcd_12 : Cond.code (zy 12) (zco 12) (zml 12) (zrt 12) ∈ zTG := List.mem_filter.mpr ⟨List.mem_of_getElem? (i := 610) rfl, rfl⟩
set_option maxRecDepth 100000 in
theorem zcd_13 : Cond.code (zy 13) (zco 13) (zml 13) (zrt 13) ∈ zTG := List.mem_filter.mpr ⟨List.mem_of_getElem? (i := 131) rfl, rfl⟩
set_option maxRecDepth 100000 in
theorem zcd_14 : Cond.code (zy 14) (zco 14) (zml 14) (zrt 14) ∈ zTG := List.mem_filter.mpr ⟨List.mem_of_getElem? (i := 272) rfl, rfl⟩
set_option maxRecDepth 100000 in
theorem zcd_15 : Cond.code (zy 15) (zco 15) (zml 15) (zrt 15) ∈ zTG := List.mem_filter.mpr ⟨List.mem_of_getElem? (i := 433) rfl, rfl⟩
set_option maxRecDepth 100000 in
theorem zcd_16 : Cond.code (zy 16) (zco 16) (zml 16) (zrt 16) ∈ zTG := List.mem_filter.mpr ⟨List.mem_of_getElem? (i := 440) rfl, rfl⟩
set_option maxRecDepth 100000 in
theorem zcd_17 : Cond.code (zy 17) (zco 17) (zml 17) (zrt 17) ∈ zTG := List.mem_filter.mpr ⟨List.mem_of_getElem? (i := 446) rfl, rfl⟩
set_option maxRecDepth 100000 in
theorem zcd_18 : Cond.code (zy 18) (zco 18) (zml 18) (zrt 18) ∈ zTG := List.mem_filter.mpr ⟨List.mem_of_getElem? (i := 387) rfl, rfl⟩
set_option maxRecDepth 100000 in
theorem zcd_19 : Cond.code (zy 19) (zco 19) (zml 19) (zrt 19) ∈ zTG := List.mem_filter.mpr ⟨List.mem_of_getElem? (i := 405) rfl, rfl⟩
set_option maxRecDepth 100000 in
theorem zcd_20 : Cond.code (zy 20) (zco 20) (zml 20) (zrt 20) ∈ zTG := List.mem_filter.mpr ⟨List.mem_of_getElem? (i := 486) rfl, rfl⟩
set_option maxRecDepth 100000 in
theorem zcd_21 : Cond.code (zy 21) (zco 21) (zml 21) (zrt 21) ∈ zTG := List.mem_filter.mpr ⟨List.mem_of_getElem? (i := 168) rfl, rfl⟩
set_option maxRecDepth 100000 in
theorem zcd_22 : Cond.code (zy 22) (zco 22) (zml 22) (zrt 22) ∈ zTG := List.mem_filter.mpr ⟨List.mem_of_getElem? (i := 425) rfl, rfl⟩
set_option maxRecDepth 100000 in
theorem zcd_23 : Cond.code (zy 23) (zco 23) (zml 23) (zrt 23) ∈ zTG := List.mem_filter.mpr ⟨List.mem_of_getElem? (i := 429) rfl, rfl⟩
set_option maxRecDepth 100000 in
theorem zcd_24 : Cond.code (zy 24) (zco 24) (zml 24) (zrt 24) ∈ zTG := List.mem_filter.mpr ⟨List.mem_of_getElem? (i := 504) rfl, rfl⟩
set_option maxRecDepth 100000 in
theorem zcd_25 : Cond.code (zy 25) (zco 25) (zml 25) (zrt 25) ∈ zTG := List.mem_filter.mpr ⟨List.mem_of_getElem? (i := 188) rfl, rfl⟩
set_option maxRecDepth 100000 in
theorem zcd_26 : Cond.code (zy 26) (zco 26) (zml 26) (zrt 26) ∈ zTG := List.mem_filter.mpr ⟨List.mem_of_getElem? (i := 618) rfl, rfl⟩
set_option maxRecDepth 100000 in
theorem zcd_27 : Cond.code (zy 27) (zco 27) (zml 27) (zrt 27) ∈ zTG := List.mem_filter.mpr ⟨List.mem_of_getElem? (i := 375) rfl, rfl⟩
set_option maxRecDepth 100000 in
theorem zcd_28 : Cond.code (zy 28) (zco 28) (zml 28) (zrt 28) ∈ zTG := List.mem_filter.mpr ⟨List.mem_of_getElem? (i := 639) rfl, rfl⟩
set_option maxRecDepth 100000 in
theorem zcd_29 : Cond.code (zy 29) (zco 29) (zml 29) (zrt 29) ∈ zTG := List.mem_filter.mpr ⟨List.mem_of_getElem? (i := 57) rfl, rfl⟩
set_option maxRecDepth 100000 in
theorem zcd_30 : Cond.code (zy 30) (zco 30) (zml 30) (zrt 30) ∈ zTG := List.mem_filter.mpr ⟨List.mem_of_getElem? (i := 312) rfl, rfl⟩
set_option maxRecDepth 100000 in
theorem zcd_31 : Cond.code (zy 31) (zco 31) (zml 31) (zrt 31) ∈ zTG := List.mem_filter.mpr ⟨List.mem_of_getElem? (i := 324) rfl, rfl⟩
set_option maxRecDepth 100000 in
theorem zcd_32 : Cond.code (zy 32) (zco 32) (zml 32) (zrt 32) ∈ zTG := List.mem_filter.mpr ⟨List.mem_of_getElem? (i := 332) rfl, rfl⟩
set_option maxRecDepth 100000 in
theorem zcd_33 : Cond.code (zy 33) (zco 33) (zml 33) (zrt 33) ∈ zTG := List.mem_filter.mpr ⟨List.mem_of_getElem? (i := 340) rfl, rfl⟩
set_option maxRecDepth 100000 in
theorem zcd_34 : Cond.code (zy 34) (zco 34) (zml 34) (zrt 34) ∈ zTG := List.mem_filter.mpr ⟨List.mem_of_getElem? (i := 354) rfl, rfl⟩
set_option maxRecDepth 100000 in
theorem zcd_35 : Cond.code (zy 35) (zco 35) (zml 35) (zrt 35) ∈ zTG := List.mem_filter.mpr ⟨List.mem_of_getElem? (i := 359) rfl, rfl⟩
set_option maxRecDepth 100000 in
theorem zcd_36 : Cond.code (zy 36) (zco 36) (zml 36) (zrt 36) ∈ zTG := List.mem_filter.mpr ⟨List.mem_of_getElem? (i := 344) rfl, rfl⟩
set_option maxRecDepth 100000 in
theorem zcd_37 : Cond.code (zy 37) (zco 37) (zml 37) (zrt 37) ∈ zTG := List.mem_filter.mpr ⟨List.mem_of_getElem? (i := 336) rfl, rfl⟩
set_option maxRecDepth 100000 in
theorem zcd_38 : Cond.code (zy 38) (zco 38) (zml 38) (zrt 38) ∈ zTG := List.mem_filter.mpr ⟨List.mem_of_getElem? (i := 347) rfl, rfl⟩
set_option maxRecDepth 100000 in
theorem zcd_39 : Cond.code (zy 39) (zco 39) (zml 39) (zrt 39) ∈ zTG := List.mem_filter.mpr ⟨List.mem_of_getElem? (i := 75) rfl, rfl⟩
set_option maxRecDepth 100000 in
theorem zcd_40 : Cond.code (zy 40) (zco 40) (zml 40) (zrt 40) ∈ zTG := List.mem_filter.mpr ⟨List.mem_of_getElem? (i := 328) rfl, rfl⟩
set_option maxRecDepth 100000 in
theorem zcd_41 : Cond.code (zy 41) (zco 41) (zml 41) (zrt 41) ∈ zTG := List.mem_filter.mpr ⟨List.mem_of_getElem? (i := 257) rfl, rfl⟩
set_option maxRecDepth 100000 in
theorem zcd_42 : Cond.code (zy 42) (zco 42) (zml 42) (zrt 42) ∈ zTG := List.mem_filter.mpr ⟨List.mem_of_getElem? (i := 261) rfl, rfl⟩
set_option maxRecDepth 100000 in
theorem zcd_43 : Cond.code (zy 43) (zco 43) (zml 43) (zrt 43) ∈ zTG := List.mem_filter.mpr ⟨List.mem_of_getElem? (i := 265) rfl, rfl⟩
set_option maxRecDepth 100000 in
theorem zcd_44 : Cond.code (zy 44) (zco 44) (zml 44) (zrt 44) ∈ zTG := List.mem_filter.mpr ⟨List.mem_of_getElem? (i := 363) rfl, rfl⟩
set_option maxRecDepth 100000 in
theorem zcd_45 : Cond.code (zy 45) (zco 45) (zml 45) (zrt 45) ∈ zTG := List.mem_filter.mpr ⟨List.mem_of_getElem? (i := 371) rfl, rfl⟩
set_option maxRecDepth 100000 in
theorem zcd_46 : Cond.code (zy 46) (zco 46) (zml 46) (zrt 46) ∈ zTG := List.mem_filter.mpr ⟨List.mem_of_getElem? (i := 473) rfl, rfl⟩
set_option maxRecDepth 100000 in
theorem zcd_47 : Cond.code (zy 47) (zco 47) (zml 47) (zrt 47) ∈ zTG := List.mem_filter.mpr ⟨List.mem_of_getElem? (i := 205) rfl, rfl⟩
set_option maxRecDepth 100000 in
theorem zcd_48 : Cond.code (zy 48) (zco 48) (zml 48) (zrt 48) ∈ zTG := List.mem_filter.mpr ⟨List.mem_of_getElem? (i := 516) rfl, rfl⟩
set_option maxRecDepth 100000 in
theorem zcd_49 : Cond.code (zy 49) (zco 49) (zml 49) (zrt 49) ∈ zTG := List.mem_filter.mpr ⟨List.mem_of_getElem? (i := 529) rfl, rfl⟩
set_option maxRecDepth 100000 in
theorem zcd_50 : Cond.code (zy 50) (zco 50) (zml 50) (zrt 50) ∈ zTG := List.mem_filter.mpr ⟨List.mem_of_getElem? (i := 512) rfl, rfl⟩
set_option maxRecDepth 100000 in
theorem zcd_51 : Cond.code (zy 51) (zco 51) (zml 51) (zrt 51) ∈ zTG := List.mem_filter.mpr ⟨List.mem_of_getElem? (i := 524) rfl, rfl⟩
set_option maxRecDepth 100000 in
theorem zcd_52 : Cond.code (zy 52) (zco 52) (zml 52) (zrt 52) ∈ zTG := List.mem_filter.mpr ⟨List.mem_of_getElem? (i := 631) rfl, rfl⟩
set_option maxRecDepth 100000 in
theorem zcd_53 : Cond.code (zy 53) (zco 53) (zml 53) (zrt 53) ∈ zTG := List.mem_filter.mpr ⟨List.mem_of_getElem? (i := 648) rfl, rfl⟩
set_option maxRecDepth 100000 in
theorem zcd_54 : Cond.code (zy 54) (zco 54) (zml 54) (zrt 54) ∈ zTG := List.mem_filter.mpr ⟨List.mem_of_getElem? (i := 635) rfl, rfl⟩
set_option maxRecDepth 100000 in
theorem zcd_55 : Cond.code (zy 55) (zco 55) (zml 55) (zrt 55) ∈ zTG := List.mem_filter.mpr ⟨List.mem_of_getElem? (i := 660) rfl, rfl⟩
set_option maxRecDepth 100000 in
theorem zcd_56 : Cond.code (zy 56) (zco 56) (zml 56) (zrt 56) ∈ zTG := List.mem_filter.mpr ⟨List.mem_of_getElem? (i := 664) rfl, rfl⟩
set_option maxRecDepth 100000 in
theorem zcd_57 : Cond.code (zy 57) (zco 57) (zml 57) (zrt 57) ∈ zTG := List.mem_filter.mpr ⟨List.mem_of_getElem? (i := 652) rfl, rfl⟩
set_option maxRecDepth 100000 in
theorem zcd_58 : Cond.code (zy 58) (zco 58) (zml 58) (zrt 58) ∈ zTG := List.mem_filter.mpr ⟨List.mem_of_getElem? (i := 49) rfl, rfl⟩
set_option maxRecDepth 100000 in
theorem zcd_59 : Cond.code (zy 59) (zco 59) (zml 59) (zrt 59) ∈ zTG := List.mem_filter.mpr ⟨List.mem_of_getElem? (i := 307) rfl, rfl⟩
set_option maxRecDepth 100000 in
theorem zcd_60 : Cond.code (zy 60) (zco 60) (zml 60) (zrt 60) ∈ zTG := List.mem_filter.mpr ⟨List.mem_of_getElem? (i := 316) rfl, rfl⟩
set_option maxRecDepth 100000 in
theorem zcd_61 : Cond.code (zy 61) (zco 61) (zml 61) (zrt 61) ∈ zTG := List.mem_filter.mpr ⟨List.mem_of_getElem? (i := 320) rfl, rfl⟩
set_option maxRecDepth 100000 in
theorem zcd_62 : Cond.code (zy 62) (zco 62) (zml 62) (zrt 62) ∈ zTG := List.mem_filter.mpr ⟨List.mem_of_getElem? (i := 367) rfl, rfl⟩
set_option maxRecDepth 100000 in
theorem zcd_63 : Cond.code (zy 63) (zco 63) (zml 63) (zrt 63) ∈ zTG := List.mem_filter.mpr ⟨List.mem_of_getElem? (i := 379) rfl, rfl⟩
set_option maxRecDepth 100000 in
theorem zcd_64 : Cond.code (zy 64) (zco 64) (zml 64) (zrt 64) ∈ zTG := List.mem_filter.mpr ⟨List.mem_of_getElem? (i := 397) rfl, rfl⟩
set_option maxRecDepth 100000 in
theorem zcd_65 : Cond.code (zy 65) (zco 65) (zml 65) (zrt 65) ∈ zTG := List.mem_filter.mpr ⟨List.mem_of_getElem? (i := 409) rfl, rfl⟩
set_option maxRecDepth 100000 in
theorem zcd_66 : Cond.code (zy 66) (zco 66) (zml 66) (zrt 66) ∈ zTG := List.mem_filter.mpr ⟨List.mem_of_getElem? (i := 418) rfl, rfl⟩
set_option maxRecDepth 100000 in
theorem zcd_67 : Cond.code (zy 67) (zco 67) (zml 67) (zrt 67) ∈ zTG := List.mem_filter.mpr ⟨List.mem_of_getElem? (i := 457) rfl, rfl⟩
set_option maxRecDepth 100000 in
theorem zcd_68 : Cond.code (zy 68) (zco 68) (zml 68) (zrt 68) ∈ zTG := List.mem_filter.mpr ⟨List.mem_of_getElem? (i := 466) rfl, rfl⟩
set_option maxRecDepth 100000 in
theorem zcd_69 : Cond.code (zy 69) (zco 69) (zml 69) (zrt 69) ∈ zTG := List.mem_filter.mpr ⟨List.mem_of_getElem? (i := 478) rfl, rfl⟩
set_option maxRecDepth 100000 in
theorem zcd_70 : Cond.code (zy 70) (zco 70) (zml 70) (zrt 70) ∈ zTG := List.mem_filter.mpr ⟨List.mem_of_getElem? (i := 496) rfl, rfl⟩
set_option maxRecDepth 100000 in
theorem zcd_71 : Cond.code (zy 71) (zco 71) (zml 71) (zrt 71) ∈ zTG := List.mem_filter.mpr ⟨List.mem_of_getElem? (i := 500) rfl, rfl⟩
set_option maxRecDepth 100000 in
theorem zcd_72 : Cond.code (zy 72) (zco 72) (zml 72) (zrt 72) ∈ zTG := List.mem_filter.mpr ⟨List.mem_of_getElem? (i := 508) rfl, rfl⟩
set_option maxRecDepth 100000 in
theorem zcd_73 : Cond.code (zy 73) (zco 73) (zml 73) (zrt 73) ∈ zTG := List.mem_filter.mpr ⟨List.mem_of_getElem? (i := 538) rfl, rfl⟩
set_option maxRecDepth 100000 in
theorem zcd_74 : Cond.code (zy 74) (zco 74) (zml 74) (zrt 74) ∈ zTG := List.mem_filter.mpr ⟨List.mem_of_getElem? (i := 547) rfl, rfl⟩
set_option maxRecDepth 100000 in
theorem zcd_75 : Cond.code (zy 75) (zco 75) (zml 75) (zrt 75) ∈ zTG := List.mem_filter.mpr ⟨List.mem_of_getElem? (i := 583) rfl, rfl⟩
set_option maxRecDepth 100000 in
theorem zcd_76 : Cond.code (zy 76) (zco 76) (zml 76) (zrt 76) ∈ zTG := List.mem_filter.mpr ⟨List.mem_of_getElem? (i := 594) rfl, rfl⟩
set_option maxRecDepth 100000 in
theorem zcd_77 : Cond.code (zy 77) (zco 77) (zml 77) (zrt 77) ∈ zTG := List.mem_filter.mpr ⟨List.mem_of_getElem? (i := 614) rfl, rfl⟩
set_option maxRecDepth 100000 in
theorem zcd_78 : Cond.code (zy 78) (zco 78) (zml 78) (zrt 78) ∈ zTG := List.mem_filter.mpr ⟨List.mem_of_getElem? (i := 623) rfl, rfl⟩
set_option maxRecDepth 100000 in
theorem zcd_79 : Cond.code (zy 79) (zco 79) (zml 79) (zrt 79) ∈ zTG := List.mem_filter.mpr ⟨List.mem_of_getElem? (i := 627) rfl, rfl⟩
set_option maxRecDepth 100000 in
theorem zcd_80 : Cond.code (zy 80) (zco 80) (zml 80) (zrt 80) ∈ zTG := List.mem_filter.mpr ⟨List.mem_of_getElem? (i := 644) rfl, rfl⟩
set_option maxRecDepth 100000 in
theorem zcd_81 : Cond.code (zy 81) (zco 81) (zml 81) (zrt 81) ∈ zTG := List.mem_filter.mpr ⟨List.mem_of_getElem? (i := 656) rfl, rfl⟩
set_option maxRecDepth 100000 in
theorem zcd_82 : Cond.code (zy 82) (zco 82) (zml 82) (zrt 82) ∈ zTG := List.mem_filter.mpr ⟨List.mem_of_getElem? (i := 670) rfl, rfl⟩
set_option maxRecDepth 100000 in
theorem zcd_83 : Cond.code (zy 83) (zco 83) (zml 83) (zrt 83) ∈ zTG := List.mem_filter.mpr ⟨List.mem_of_getElem? (i := 674) rfl, rfl⟩
set_option maxRecDepth 100000 in
theorem zcd_84 : Cond.code (zy 84) (zco 84) (zml 84) (zrt 84) ∈ zTG := List.mem_filter.mpr ⟨List.mem_of_getElem? (i := 678) rfl, rfl⟩
set_option maxRecDepth 100000 in
theorem zcd_85 : Cond.code (zy 85) (zco 85) (zml 85) (zrt 85) ∈ zTG := List.mem_filter.mpr ⟨List.mem_of_getElem? (i := 682) rfl, rfl⟩
set_option maxRecDepth 100000 in
theorem zcd_86 : Cond.code (zy 86) (zco 86) (zml 86) (zrt 86) ∈ zTG := List.mem_filter.mpr ⟨List.mem_of_getElem? (i := 686) rfl, rfl⟩
set_option maxRecDepth 100000 in
theorem zcd_87 : Cond.code (zy 87) (zco 87) (zml 87) (zrt 87) ∈ zTG := List.mem_filter.mpr ⟨List.mem_of_getElem? (i := 690) rfl, rfl⟩
set_option maxRecDepth 100000 in
theorem zcd_88 : Cond.code (zy 88) (zco 88) (zml 88) (zrt 88) ∈ zTG := List.mem_filter.mpr ⟨List.mem_of_getElem? (i := 383) rfl, rfl⟩
set_option maxRecDepth 100000 in
theorem zcd_89 : Cond.code (zy 89) (zco 89) (zml 89) (zrt 89) ∈ zTG := List.mem_filter.mpr ⟨List.mem_of_getElem? (i := 413) rfl, rfl⟩
set_option maxRecDepth 100000 in
theorem zcd_90 : Cond.code (zy 90) (zco 90) (zml 90) (zrt 90) ∈ zTG := List.mem_filter.mpr ⟨List.mem_of_getElem? (i := 401) rfl, rfl⟩
set_option maxRecDepth 100000 in
theorem zcd_91 : Cond.code (zy 91) (zco 91) (zml 91) (zrt 91) ∈ zTG := List.mem_filter.mpr ⟨List.mem_of_getElem? (i := 469) rfl, rfl⟩
set_option maxRecDepth 100000 in
theorem zcd_92 : Cond.code (zy 92) (zco 92) (zml 92) (zrt 92) ∈ zTG := List.mem_filter.mpr ⟨List.mem_of_getElem? (i := 421) rfl, rfl⟩
set_option maxRecDepth 100000 in
theorem zcd_93 : Cond.code (zy 93) (zco 93) (zml 93) (zrt 93) ∈ zTG := List.mem_filter.mpr ⟨List.mem_of_getElem? (i := 482) rfl, rfl⟩
set_option maxRecDepth 100000 in
theorem zcd_94 : Cond.code (zy 94) (zco 94) (zml 94) (zrt 94) ∈ zTG := List.mem_filter.mpr ⟨List.mem_of_getElem? (i := 461) rfl, rfl⟩
set_option maxRecDepth 100000 in
theorem zcd_95 : Cond.code (zy 95) (zco 95) (zml 95) (zrt 95) ∈ zTG := List.mem_filter.mpr ⟨List.mem_of_getElem? (i := 542) rfl, rfl⟩
set_option maxRecDepth 100000 in
theorem zcd_96 : Cond.code (zy 96) (zco 96) (zml 96) (zrt 96) ∈ zTG := List.mem_filter.mpr ⟨List.mem_of_getElem? (i := 268) rfl, rfl⟩
set_option maxRecDepth 100000 in
theorem zcd_97 : Cond.code (zy 97) (zco 97) (zml 97) (zrt 97) ∈ zTG := List.mem_filter.mpr ⟨List.mem_of_getElem? (i := 393) rfl, rfl⟩
set_option maxRecDepth 100000 in
theorem zcd_98 : Cond.code (zy 98) (zco 98) (zml 98) (zrt 98) ∈ zTG := List.mem_filter.mpr ⟨List.mem_of_getElem? (i := 390) rfl, rfl⟩
set_option maxRecDepth 100000 in
theorem zcd_99 : Cond.code (zy 99) (zco 99) (zml 99) (zrt 99) ∈ zTG := List.mem_filter.mpr ⟨List.mem_of_getElem? (i := 453) rfl, rfl⟩
set_option maxRecDepth 100000 in
theorem zcd_100 : Cond.code (zy 100) (zco 100) (zml 100) (zrt 100) ∈ zTG := List.mem_filter.mpr ⟨List.mem_of_getElem? (i := 533) rfl, rfl⟩
set_option maxRecDepth 100000 in
theorem zcd_101 : Cond.code (zy 101) (zco 101) (zml 101) (zrt 101) ∈ zTG := List.mem_filter.mpr ⟨List.mem_of_getElem? (i := 695) rfl, rfl⟩
set_option maxRecDepth 100000 in
theorem zcd_102 : Cond.code (zy 102) (zco 102) (zml 102) (zrt 102) ∈ zTG := List.mem_filter.mpr ⟨List.mem_of_getElem? (i := 774) rfl, rfl⟩
set_option maxRecDepth 100000 in
theorem zcd_103 : Cond.code (zy 103) (zco 103) (zml 103) (zrt 103) ∈ zTG := List.mem_filter.mpr ⟨List.mem_of_getElem? (i := 770) rfl, rfl⟩
set_option maxRecDepth 100000 in
theorem zcd_104 : Cond.code (zy 104) (zco 104) (zml 104) (zrt 104) ∈ zTG := List.mem_filter.mpr ⟨List.mem_of_getElem? (i := 778) rfl, rfl⟩
set_option maxRecDepth 100000 in
theorem zcd_105 : Cond.code (zy 105) (zco 105) (zml 105) (zrt 105) ∈ zTG := List.mem_filter.mpr ⟨List.mem_of_getElem? (i := 796) rfl, rfl⟩
set_option maxRecDepth 100000 in
theorem zcd_106 : Cond.code (zy 106) (zco 106) (zml 106) (zrt 106) ∈ zTG := List.mem_filter.mpr ⟨List.mem_of_getElem? (i := 790) rfl, rfl⟩
set_option maxRecDepth 100000 in
theorem zcd_107 : Cond.code (zy 107) (zco 107) (zml 107) (zrt 107) ∈ zTG := List.mem_filter.mpr ⟨List.mem_of_getElem? (i := 786) rfl, rfl⟩
set_option maxRecDepth 100000 in
theorem zcd_108 : Cond.code (zy 108) (zco 108) (zml 108) (zrt 108) ∈ zTG := List.mem_filter.mpr ⟨List.mem_of_getElem? (i := 801) rfl, rfl⟩
set_option maxRecDepth 100000 in
theorem zcd_109 : Cond.code (zy 109) (zco 109) (zml 109) (zrt 109) ∈ zTG := List.mem_filter.mpr ⟨List.mem_of_getElem? (i := 700) rfl, rfl⟩
set_option maxRecDepth 100000 in
theorem zcd_110 : Cond.code (zy 110) (zco 110) (zml 110) (zrt 110) ∈ zTG := List.mem_filter.mpr ⟨List.mem_of_getElem? (i := 813) rfl, rfl⟩
set_option maxRecDepth 100000 in
theorem zcd_111 : Cond.code (zy 111) (zco 111) (zml 111) (zrt 111) ∈ zTG := List.mem_filter.mpr ⟨List.mem_of_getElem? (i := 704) rfl, rfl⟩
set_option maxRecDepth 100000 in
theorem zcd_112 : Cond.code (zy 112) (zco 112) (zml 112) (zrt 112) ∈ zTG := List.mem_filter.mpr ⟨List.mem_of_getElem? (i := 782) rfl, rfl⟩
set_option maxRecDepth 100000 in
theorem zcd_113 : Cond.code (zy 113) (zco 113) (zml 113) (zrt 113) ∈ zTG := List.mem_filter.mpr ⟨List.mem_of_getElem? (i := 808) rfl, rfl⟩
set_option maxRecDepth 100000 in
theorem zcd_114 : Cond.code (zy 114) (zco 114) (zml 114) (zrt 114) ∈ zTG := List.mem_filter.mpr ⟨List.mem_of_getElem? (i := 821) rfl, rfl⟩
set_option maxRecDepth 100000 in
theorem zcd_115 : Cond.code (zy 115) (zco 115) (zml 115) (zrt 115) ∈ zTG := List.mem_filter.mpr ⟨List.mem_of_getElem? (i := 834) rfl, rfl⟩
set_option maxRecDepth 100000 in
theorem zcd_116 : Cond.code (zy 116) (zco 116) (zml 116) (zrt 116) ∈ zTG := List.mem_filter.mpr ⟨List.mem_of_getElem? (i := 826) rfl, rfl⟩
set_option maxRecDepth 100000 in
theorem zcd_117 : Cond.code (zy 117) (zco 117) (zml 117) (zrt 117) ∈ zTG := List.mem_filter.mpr ⟨List.mem_of_getElem? (i := 817) rfl, rfl⟩
set_option maxRecDepth 100000 in
theorem zcd_118 : Cond.code (zy 118) (zco 118) (zml 118) (zrt 118) ∈ zTG := List.mem_filter.mpr ⟨List.mem_of_getElem? (i := 830) rfl, rfl⟩
set_option maxRecDepth 100000 in
theorem zcd_119 : Cond.code (zy 119) (zco 119) (zml 119) (zrt 119) ∈ zTG := List.mem_filter.mpr ⟨List.mem_of_getElem? (i := 838) rfl, rfl⟩
set_option maxRecDepth 100000 in
theorem zcd_120 : Cond.code (zy 120) (zco 120) (zml 120) (zrt 120) ∈ zTG := List.mem_filter.mpr ⟨List.mem_of_getElem? (i := 852) rfl, rfl⟩
set_option maxRecDepth 100000 in
theorem zcd_121 : Cond.code (zy 121) (zco 121) (zml 121) (zrt 121) ∈ zTG := List.mem_filter.mpr ⟨List.mem_of_getElem? (i := 848) rfl, rfl⟩
set_option maxRecDepth 100000 in
theorem zcd_122 : Cond.code (zy 122) (zco 122) (zml 122) (zrt 122) ∈ zTG := List.mem_filter.mpr ⟨List.mem_of_getElem? (i := 856) rfl, rfl⟩
set_option maxRecDepth 100000 in
theorem zcd_123 : Cond.code (zy 123) (zco 123) (zml 123) (zrt 123) ∈ zTG := List.mem_filter.mpr ⟨List.mem_of_getElem? (i := 843) rfl, rfl⟩
set_option maxRecDepth 100000 in
theorem zcd_124 : Cond.code (zy 124) (zco 124) (zml 124) (zrt 124) ∈ zTG := List.mem_filter.mpr ⟨List.mem_of_getElem? (i := 868) rfl, rfl⟩
set_option maxRecDepth 100000 in
theorem zcd_125 : Cond.code (zy 125) (zco 125) (zml 125) (zrt 125) ∈ zTG := List.mem_filter.mpr ⟨List.mem_of_getElem? (i := 872) rfl, rfl⟩
set_option maxRecDepth 100000 in
theorem zcd_126 : Cond.code (zy 126) (zco 126) (zml 126) (zrt 126) ∈ zTG := List.mem_filter.mpr ⟨List.mem_of_getElem? (i := 864) rfl, rfl⟩
set_option maxRecDepth 100000 in
theorem zcd_127 : Cond.code (zy 127) (zco 127) (zml 127) (zrt 127) ∈ zTG := List.mem_filter.mpr ⟨List.mem_of_getElem? (i := 880) rfl, rfl⟩
set_option maxRecDepth 100000 in
theorem zcd_128 : Cond.code (zy 128) (zco 128) (zml 128) (zrt 128) ∈ zTG := List.mem_filter.mpr ⟨List.mem_of_getElem? (i := 876) rfl, rfl⟩
set_option maxRecDepth 100000 in
theorem zcd_129 : Cond.code (zy 129) (zco 129) (zml 129) (zrt 129) ∈ zTG := List.mem_filter.mpr ⟨List.mem_of_getElem? (i := 892) rfl, rfl⟩
set_option maxRecDepth 100000 in
theorem zcd_130 : Cond.code (zy 130) (zco 130) (zml 130) (zrt 130) ∈ zTG := List.mem_filter.mpr ⟨List.mem_of_getElem? (i := 888) rfl, rfl⟩
set_option maxRecDepth 100000 in
theorem zcd_131 : Cond.code (zy 131) (zco 131) (zml 131) (zrt 131) ∈ zTG := List.mem_filter.mpr ⟨List.mem_of_getElem? (i := 884) rfl, rfl⟩
set_option maxRecDepth 100000 in
theorem zcd_132 : Cond.code (zy 132) (zco 132) (zml 132) (zrt 132) ∈ zTG := List.mem_filter.mpr ⟨List.mem_of_getElem? (i := 896) rfl, rfl⟩
set_option maxRecDepth 100000 in
theorem zcd_133 : Cond.code (zy 133) (zco 133) (zml 133) (zrt 133) ∈ zTG := List.mem_filter.mpr ⟨List.mem_of_getElem? (i := 900) rfl, rfl⟩
set_option maxRecDepth 100000 in
theorem zcd_134 : Cond.code (zy 134) (zco 134) (zml 134) (zrt 134) ∈ zTG := List.mem_filter.mpr ⟨List.mem_of_getElem? (i := 912) rfl, rfl⟩
set_option maxRecDepth 100000 in
theorem zcd_135 : Cond.code (zy 135) (zco 135) (zml 135) (zrt 135) ∈ zTG := List.mem_filter.mpr ⟨List.mem_of_getElem? (i := 916) rfl, rfl⟩
set_option maxRecDepth 100000 in
theorem zcd_136 : Cond.code (zy 136) (zco 136) (zml 136) (zrt 136) ∈ zTG := List.mem_filter.mpr ⟨List.mem_of_getElem? (i := 920) rfl, rfl⟩
set_option maxRecDepth 100000 in
theorem zcd_137 : Cond.code (zy 137) (zco 137) (zml 137) (zrt 137) ∈ zTG := List.mem_filter.mpr ⟨List.mem_of_getElem? (i := 908) rfl, rfl⟩
set_option maxRecDepth 100000 in
theorem zcd_138 : Cond.code (zy 138) (zco 138) (zml 138) (zrt 138) ∈ zTG := List.mem_filter.mpr ⟨List.mem_of_getElem? (i := 904) rfl, rfl⟩
set_option maxRecDepth 100000 in
theorem zcd_139 : Cond.code (zy 139) (zco 139) (zml 139) (zrt 139) ∈ zTG := List.mem_filter.mpr ⟨List.mem_of_getElem? (i := 924) rfl, rfl⟩
set_option maxRecDepth 100000 in
theorem zcd_140 : Cond.code (zy 140) (zco 140) (zml 140) (zrt 140) ∈ zTG := List.mem_filter.mpr ⟨List.mem_of_getElem? (i := 936) rfl, rfl⟩
set_option maxRecDepth 100000 in
theorem zcd_141 : Cond.code (zy 141) (zco 141) (zml 141) (zrt 141) ∈ zTG := List.mem_filter.mpr ⟨List.mem_of_getElem? (i := 932) rfl, rfl⟩
set_option maxRecDepth 100000 in
theorem zcd_142 : Cond.code (zy 142) (zco 142) (zml 142) (zrt 142) ∈ zTG := List.mem_filter.mpr ⟨List.mem_of_getElem? (i := 928) rfl, rfl⟩
set_option maxRecDepth 100000 in
theorem zcd_143 : Cond.code (zy 143) (zco 143) (zml 143) (zrt 143) ∈ zTG := List.mem_filter.mpr ⟨List.mem_of_getElem? (i := 940) rfl, rfl⟩
set_option maxRecDepth 100000 in
theorem zcd_144 : Cond.code (zy 144) (zco 144) (zml 144) (zrt 144) ∈ zTG := List.mem_filter.mpr ⟨List.mem_of_getElem? (i := 949) rfl, rfl⟩
set_option maxRecDepth 100000 in
theorem zcd_145 : Cond.code (zy 145) (zco 145) (zml 145) (zrt 145) ∈ zTG := List.mem_filter.mpr ⟨List.mem_of_getElem? (i := 945) rfl, rfl⟩
set_option maxRecDepth 100000 in
theorem zcd_146 : Cond.code (zy 146) (zco 146) (zml 146) (zrt 146) ∈ zTG := List.mem_filter.mpr ⟨List.mem_of_getElem? (i := 953) rfl, rfl⟩
set_option maxRecDepth 100000 in
theorem zcd_147 : Cond.code (zy 147) (zco 147) (zml 147) (zrt 147) ∈ zTG := List.mem_filter.mpr ⟨List.mem_of_getElem? (i := 957) rfl, rfl⟩
set_option maxRecDepth 100000 in
theorem zcd_148 : Cond.code (zy 148) (zco 148) (zml 148) (zrt 148) ∈ zTG := List.mem_filter.mpr ⟨List.mem_of_getElem? (i := 965) rfl, rfl⟩
set_option maxRecDepth 100000 in
theorem zcd_149 : Cond.code (zy 149) (zco 149) (zml 149) (zrt 149) ∈ zTG := List.mem_filter.mpr ⟨List.mem_of_getElem? (i := 961) rfl, rfl⟩
set_option maxRecDepth 100000 in
theorem zcd_150 : Cond.code (zy 150) (zco 150) (zml 150) (zrt 150) ∈ zTG := List.mem_filter.mpr ⟨List.mem_of_getElem? (i := 969) rfl, rfl⟩
set_option maxRecDepth 100000 in
theorem zcd_151 : Cond.code (zy 151) (zco 151) (zml 151) (zrt 151) ∈ zTG := List.mem_filter.mpr ⟨List.mem_of_getElem? (i := 973) rfl, rfl⟩
set_option maxRecDepth 100000 in
theorem zcd_152 : Cond.code (zy 152) (zco 152) (zml 152) (zrt 152) ∈ zTG := List.mem_filter.mpr ⟨List.mem_of_getElem? (i := 977) rfl, rfl⟩
set_option maxRecDepth 100000 in
theorem zcd_153 : Cond.code (zy 153) (zco 153) (zml 153) (zrt 153) ∈ zTG := List.mem_filter.mpr ⟨List.mem_of_getElem? (i := 981) rfl, rfl⟩
set_option maxRecDepth 100000 in
theorem zcd_154 : Cond.code (zy 154) (zco 154) (zml 154) (zrt 154) ∈ zTG := List.mem_filter.mpr ⟨List.mem_of_getElem? (i := 985) rfl, rfl⟩
set_option maxRecDepth 100000 in
theorem zcd_155 : Cond.code (zy 155) (zco 155) (zml 155) (zrt 155) ∈ zTG := List.mem_filter.mpr ⟨List.mem_of_getElem? (i := 990) rfl, rfl⟩
set_option maxRecDepth 100000 in
theorem zcd_156 : Cond.code (zy 156) (zco 156) (zml 156) (zrt 156) ∈ zTG := List.mem_filter.mpr ⟨List.mem_of_getElem? (i := 994) rfl, rfl⟩
set_option maxRecDepth 100000 in
theorem zcd_157 : Cond.code (zy 157) (zco 157) (zml 157) (zrt 157) ∈ zTG := List.mem_filter.mpr ⟨List.mem_of_getElem? (i := 998) rfl, rfl⟩
set_option maxRecDepth 100000 in
theorem zcd_158 : Cond.code (zy 158) (zco 158) (zml 158) (zrt 158) ∈ zTG := List.mem_filter.mpr ⟨List.mem_of_getElem? (i := 489) rfl, rfl⟩
def zCD0 : List Nat := [0, 1, 2, 3, 4, 5, 6, 7, 8, 9, 10, 11, 12, 13, 14, 15]
theorem zCD0_ok : ∀ k ∈ zCD0, Cond.code (zy k) (zco k) (zml k) (zrt k) ∈ zTG := List.forall_mem_cons.mpr ⟨zcd_0, List.forall_mem_cons.mpr ⟨zcd_1, List.forall_mem_cons.mpr ⟨zcd_2, List.forall_mem_cons.mpr ⟨zcd_3, List.forall_mem_cons.mpr ⟨zcd_4, List.forall_mem_cons.mpr ⟨zcd_5, List.forall_mem_cons.mpr ⟨zcd_6, List.forall_mem_cons.mpr ⟨zcd_7, List.forall_mem_cons.mpr ⟨zcd_8, List.forall_mem_cons.mpr ⟨zcd_9, List.forall_mem_cons.mpr ⟨zcd_10, List.forall_mem_cons.mpr ⟨zcd_11, List.forall_mem_cons.mpr ⟨zcd_12, List.forall_mem_cons.mpr ⟨zcd_13, List.forall_mem_cons.mpr ⟨zcd_14, List.forall_mem_cons.mpr ⟨zcd_15, fun _ h => absurd h List.not_mem_nil⟩⟩⟩⟩⟩⟩⟩⟩⟩⟩⟩⟩⟩⟩⟩⟩
def zCD1 : List Nat := [16, 17, 18, 19, 20, 21, 22, 23, 24, 25, 26, 27, 28, 29, 30, 31]
theorem zCD1_ok : ∀ k ∈ zCD1, Cond.code (zy k) (zco k) (zml k) (zrt k) ∈ zTG := List.forall_mem_cons.mpr ⟨zcd_16, List.forall_mem_cons.mpr ⟨zcd_17, List.forall_mem_cons.mpr ⟨zcd_18, List.forall_mem_cons.mpr ⟨zcd_19, List.forall_mem_cons.mpr ⟨zcd_20, List.forall_mem_cons.mpr ⟨zcd_21, List.forall_mem_cons.mpr ⟨zcd_22, List.forall_mem_cons.mpr ⟨zcd_23, List.forall_mem_cons.mpr ⟨zcd_24, List.forall_mem_cons.mpr ⟨zcd_25, List.forall_mem_cons.mpr ⟨zcd_26, List.forall_mem_cons.mpr ⟨zcd_27, List.forall_mem_cons.mpr ⟨zcd_28, List.forall_mem_cons.mpr ⟨zcd_29, List.forall_mem_cons.mpr ⟨zcd_30, List.forall_mem_cons.mpr ⟨zcd_31, fun _ h => absurd h List.not_mem_nil⟩⟩⟩⟩⟩⟩⟩⟩⟩⟩⟩⟩⟩⟩⟩⟩
def zCD2 : List Nat := [32, 33, 34, 35, 36, 37, 38, 39, 40, 41, 42, 43, 44, 45, 46, 47]
theorem zCD2_ok : ∀ k ∈ zCD2, Cond.code (zy k) (zco k) (zml k) (zrt k) ∈ zTG := List.forall_mem_cons.mpr ⟨zcd_32, List.forall_mem_cons.mpr ⟨zcd_33, List.forall_mem_cons.mpr ⟨zcd_34, List.forall_mem_cons.mpr ⟨zcd_35, List.forall_mem_cons.mpr ⟨zcd_36, List.forall_mem_cons.mpr ⟨zcd_37, List.forall_mem_cons.mpr ⟨zcd_38, List.forall_mem_cons.mpr ⟨zcd_39, List.forall_mem_cons.mpr ⟨zcd_40, List.forall_mem_cons.mpr ⟨zcd_41, List.forall_mem_cons.mpr ⟨zcd_42, List.forall_mem_cons.mpr ⟨zcd_43, List.forall_mem_cons.mpr ⟨zcd_44, List.forall_mem_cons.mpr ⟨zcd_45, List.forall_mem_cons.mpr ⟨zcd_46, List.forall_mem_cons.mpr ⟨zcd_47, fun _ h => absurd h List.not_mem_nil⟩⟩⟩⟩⟩⟩⟩⟩⟩⟩⟩⟩⟩⟩⟩⟩
def zCD3 : List Nat := [48, 49, 50, 51, 52, 53, 54, 55, 56, 57, 58, 59, 60, 61, 62, 63]
theorem zCD3_ok : ∀ k ∈ zCD3, Cond.code (zy k) (zco k) (zml k) (zrt k) ∈ zTG := List.forall_mem_cons.mpr ⟨zcd_48, List.forall_mem_cons.mpr ⟨zcd_49, List.forall_mem_cons.mpr ⟨zcd_50, List.forall_mem_cons.mpr ⟨zcd_51, List.forall_mem_cons.mpr ⟨zcd_52, List.forall_mem_cons.mpr ⟨zcd_53, List.forall_mem_cons.mpr ⟨zcd_54, List.forall_mem_cons.mpr ⟨zcd_55, List.forall_mem_cons.mpr ⟨zcd_56, List.forall_mem_cons.mpr ⟨zcd_57, List.forall_mem_cons.mpr ⟨zcd_58, List.forall_mem_cons.mpr ⟨zcd_59, List.forall_mem_cons.mpr ⟨zcd_60, List.forall_mem_cons.mpr ⟨zcd_61, List.forall_mem_cons.mpr ⟨zcd_62, List.forall_mem_cons.mpr ⟨zcd_63, fun _ h => absurd h List.not_mem_nil⟩⟩⟩⟩⟩⟩⟩⟩⟩⟩⟩⟩⟩⟩⟩⟩
def zCD4 : List Nat := [64, 65, 66, 67, 68, 69, 70, 71, 72, 73, 74, 75, 76, 77, 78, 79]
theorem zCD4_ok : ∀ k ∈ zCD4, Cond.code (zy k) (zco k) (zml k) (zrt k) ∈ zTG := List.forall_mem_cons.mpr ⟨zcd_64, List.forall_mem_cons.mpr ⟨zcd_65, List.forall_mem_cons.mpr ⟨zcd_66, List.forall_mem_cons.mpr ⟨zcd_67, List.forall_mem_cons.mpr ⟨zcd_68, List.forall_mem_cons.mpr ⟨zcd_69, List.forall_mem_cons.mpr ⟨zcd_70, List.forall_mem_cons.mpr ⟨zcd_71, List.forall_mem_cons.mpr ⟨zcd_72, List.forall_mem_cons.mpr ⟨zcd_73, List.forall_mem_cons.mpr ⟨zcd_74, List.forall_mem_cons.mpr ⟨zcd_75, List.forall_mem_cons.mpr ⟨zcd_76, List.forall_mem_cons.mpr ⟨zcd_77, List.forall_mem_cons.mpr ⟨zcd_78, List.forall_mem_cons.mpr ⟨zcd_79, fun _ h => absurd h List.not_mem_nil⟩⟩⟩⟩⟩⟩⟩⟩⟩⟩⟩⟩⟩⟩⟩⟩
def zCD5 : List Nat := [80, 81, 82, 83, 84, 85, 86, 87, 88, 89, 90, 91, 92, 93, 94, 95]
theorem zCD5_ok : ∀ k ∈ zCD5, Cond.code (zy k) (zco k) (zml k) (zrt k) ∈ zTG := List.forall_mem_cons.mpr ⟨zcd_80, List.forall_mem_cons.mpr ⟨zcd_81, List.forall_mem_cons.mpr ⟨zcd_82, List.forall_mem_cons.mpr ⟨zcd_83, List.forall_mem_cons.mpr ⟨zcd_84, List.forall_mem_cons.mpr ⟨zcd_85, List.forall_mem_cons.mpr ⟨zcd_86, List.forall_mem_cons.mpr ⟨zcd_87, List.forall_mem_cons.mpr ⟨zcd_88, List.forall_mem_cons.mpr ⟨zcd_89, List.forall_mem_cons.mpr ⟨zcd_90, List.forall_mem_cons.mpr ⟨zcd_91, List.forall_mem_cons.mpr ⟨zcd_92, List.forall_mem_cons.mpr ⟨zcd_93, List.forall_mem_cons.mpr ⟨zcd_94, List.forall_mem_cons.mpr ⟨zcd_95, fun _ h => absurd h List.not_mem_nil⟩⟩⟩⟩⟩⟩⟩⟩⟩⟩⟩⟩⟩⟩⟩⟩
def zCD6 : List Nat := [96, 97, 98, 99, 100, 101, 102, 103, 104, 105, 106, 107, 108, 109, 110, 111]
theorem zCD6_ok : ∀ k ∈ zCD6, Cond.code (zy k) (zco k) (zml k) (zrt k) ∈ zTG := List.forall_mem_cons.mpr ⟨zcd_96, List.forall_mem_cons.mpr ⟨zcd_97, List.forall_mem_cons.mpr ⟨zcd_98, List.forall_mem_cons.mpr ⟨zcd_99, List.forall_mem_cons.mpr ⟨zcd_100, List.forall_mem_cons.mpr ⟨zcd_101, List.forall_mem_cons.mpr ⟨zcd_102, List.forall_mem_cons.mpr ⟨zcd_103, List.forall_mem_cons.mpr ⟨zcd_104, List.forall_mem_cons.mpr ⟨zcd_105, List.forall_mem_cons.mpr ⟨zcd_106, List.forall_mem_cons.mpr ⟨zcd_107, List.forall_mem_cons.mpr ⟨zcd_108, List.forall_mem_cons.mpr ⟨zcd_109, List.forall_mem_cons.mpr ⟨zcd_110, List.forall_mem_cons.mpr ⟨zcd_111, fun _ h => absurd h List.not_mem_nil⟩⟩⟩⟩⟩⟩⟩⟩⟩⟩⟩⟩⟩⟩⟩⟩
def zCD7 : List Nat := [112, 113, 114, 115, 116, 117, 118, 119, 120, 121, 122, 123, 124, 125, 126, 127]
theorem zCD7_ok : ∀ k ∈ zCD7, Cond.code (zy k) (zco k) (zml k) (zrt k) ∈ zTG := List.forall_mem_cons.mpr ⟨zcd_112, List.forall_mem_cons.mpr ⟨zcd_113, List.forall_mem_cons.mpr ⟨zcd_114, List.forall_mem_cons.mpr ⟨zcd_115, List.forall_mem_cons.mpr ⟨zcd_116, List.forall_mem_cons.mpr ⟨zcd_117, List.forall_mem_cons.mpr ⟨zcd_118, List.forall_mem_cons.mpr ⟨zcd_119, List.forall_mem_cons.mpr ⟨zcd_120, List.forall_mem_cons.mpr ⟨zcd_121, List.forall_mem_cons.mpr ⟨zcd_122, List.forall_mem_cons.mpr ⟨zcd_123, List.forall_mem_cons.mpr ⟨zcd_124, List.forall_mem_cons.mpr ⟨zcd_125, List.forall_mem_cons.mpr ⟨zcd_126, List.forall_mem_cons.mpr ⟨zcd_127, fun _ h => absurd h List.not_mem_nil⟩⟩⟩⟩⟩⟩⟩⟩⟩⟩⟩⟩⟩⟩⟩⟩
def zCD8 : List Nat := [128, 129, 130, 131, 132, 133, 134, 135, 136, 137, 138, 139, 140, 141, 142, 143]
theorem zCD8_ok : ∀ k ∈ zCD8, Cond.code (zy k) (zco k) (zml k) (zrt k) ∈ zTG := List.forall_mem_cons.mpr ⟨zcd_128, List.forall_mem_cons.mpr ⟨zcd_129, List.forall_mem_cons.mpr ⟨zcd_130, List.forall_mem_cons.mpr ⟨zcd_131, List.forall_mem_cons.mpr ⟨zcd_132, List.forall_mem_cons.mpr ⟨zcd_133, List.forall_mem_cons.mpr ⟨zcd_134, List.forall_mem_cons.mpr ⟨zcd_135, List.forall_mem_cons.mpr ⟨zcd_136, List.forall_mem_cons.mpr ⟨zcd_137, List.forall_mem_cons.mpr ⟨zcd_138, List.forall_mem_cons.mpr ⟨zcd_139, List.forall_mem_cons.mpr ⟨zcd_140, List.forall_mem_cons.mpr ⟨zcd_141, List.forall_mem_cons.mpr ⟨zcd_142, List.forall_mem_cons.mpr ⟨zcd_143, fun _ h => absurd h List.not_mem_nil⟩⟩⟩⟩⟩⟩⟩⟩⟩⟩⟩⟩⟩⟩⟩⟩
def zCD9 : List Nat := [144, 145, 146, 147, 148, 149, 150, 151, 152, 153, 154, 155, 156, 157, 158]
theorem zCD9_ok : ∀ k ∈ zCD9, Cond.code (zy k) (zco k) (zml k) (zrt k) ∈ zTG := List.forall_mem_cons.mpr ⟨zcd_144, List.forall_mem_cons.mpr ⟨zcd_145, List.forall_mem_cons.mpr ⟨zcd_146, List.forall_mem_cons.mpr ⟨zcd_147, List.forall_mem_cons.mpr ⟨zcd_148, List.forall_mem_cons.mpr ⟨zcd_149, List.forall_mem_cons.mpr ⟨zcd_150, List.forall_mem_cons.mpr ⟨zcd_151, List.forall_mem_cons.mpr ⟨zcd_152, List.forall_mem_cons.mpr ⟨zcd_153, List.forall_mem_cons.mpr ⟨zcd_154, List.forall_mem_cons.mpr ⟨zcd_155, List.forall_mem_cons.mpr ⟨zcd_156, List.forall_mem_cons.mpr ⟨zcd_157, List.forall_mem_cons.mpr ⟨zcd_158, fun _ h => absurd h List.not_mem_nil⟩⟩⟩⟩⟩⟩⟩⟩⟩⟩⟩⟩⟩⟩⟩
def zCD : List Nat := zCD0 ++ (zCD1 ++ (zCD2 ++ (zCD3 ++ (zCD4 ++ (zCD5 ++ (zCD6 ++ (zCD7 ++ (zCD8 ++ (zCD9)))))))))
theorem zCD_ok : ∀ k ∈ zCD, Cond.code (zy k) (zco k) (zml k) (zrt k) ∈ zTG := List.forall_mem_append.mpr ⟨zCD0_ok, List.forall_mem_append.mpr ⟨zCD1_ok, List.forall_mem_append.mpr ⟨zCD2_ok, List.forall_mem_append.mpr ⟨zCD3_ok, List.forall_mem_append.mpr ⟨zCD4_ok, List.forall_mem_append.mpr ⟨zCD5_ok, List.forall_mem_append.mpr ⟨zCD6_ok, List.forall_mem_append.mpr ⟨zCD7_ok, List.forall_mem_append.mpr ⟨zCD8_ok, zCD9_ok⟩⟩⟩⟩⟩⟩⟩⟩⟩
def zMH (y : MethodName) : Bool := !(y.cls == "java/lang/invoke/MethodHandle") && !(y.cls == "java/lang/invoke/VarHandle")
/-- what the tables must say of a call -/
def zMLc (q : Nat × Nat × Nat × Nat × Nat × Nat × Nat × Nat × Nat) : Bool :=
  let o := q.1; let i := q.2.1; let cal := q.2.2.1; let y := zy cal
  match q.2.2.2 with
  | (8, p1, p2, _, _, p5) => zzat p1 (.methodLink (zcn o) i objectInit) && zzat p2 (.instanceMethod objectInit) && zzat p5 (.code objectInit ⟨#[0xb1]⟩ 1 none)
  | (9, p1, p2, p3, p4, _) => zzat p1 (.methodLink (zcn o) i arraycopyName) && zzat p2 (.static arraycopyName) && zzat p3 (.native arraycopyName) && zzat p4 (.initialized "java/lang/System")
  | (10, p1, p2, _, p4, p5) => zzat p1 (.methodLink (zcn o) i Lib.Math.max.name) && zzat p2 (.static Lib.Math.max.name) && zzat p4 (.initialized "java/lang/Math") && zzat p5 (.code Lib.Math.max.name Lib.Math.max.code 2 (some .int))
  | (11, p1, p2, _, p4, p5) => zzat p1 (.methodLink (zcn o) i Lib.Math.min.name) && zzat p2 (.static Lib.Math.min.name) && zzat p4 (.initialized "java/lang/Math") && zzat p5 (.code Lib.Math.min.name Lib.Math.min.code 2 (some .int))
  | (k, p1, p2, p3, p4, _) => decide (k < 5) && zzat p4 (.initialized y.cls) && zCD.contains cal && zMH y && plainName y.cls && (y.cls == zcn (zown cal)) &&
    (match k with
     | 0 => zzat p1 (.methodLink (zcn o) i y) && zzat p2 (.instanceMethod y) && zzat p3 (.selects y.cls y y) && decide (zown cal < 9) && decide ((parseMethodDescriptor y.desc).map (fun d => d.parameters.length) = some (zna cal - 1)) && decide (0 < zna cal)
     | 1 => zzat p1 (.methodLink (zcn o) i y) && zzat p2 (.static y) && decide ((parseMethodDescriptor y.desc).map (fun d => d.parameters.length) = some (zna cal))
     | 2 => zzat p1 (.methodLink (zcn o) i y) && zzat p2 (.instanceMethod y) && (y.name == "<init>") && decide (zrt cal = none) && decide ((parseMethodDescriptor y.desc).map (fun d => d.parameters.length) = some (zna cal - 1)) && decide (0 < zna cal)
     | 3 => decide (lw_tbl[p1]? = some (.methodLinkNest (zcn o) i y RX7)) && zzat p2 (.static y) && decide ((parseMethodDescriptor y.desc).map (fun d => d.parameters.length) = some (zna cal))
     | _ => decide (lw_tbl[p1]? = some (.methodLinkNest (zcn o) i y RX7)) && zzat p2 (.instanceMethod y) && (y.name == "<init>") && decide (zrt cal = none) && decide ((parseMethodDescriptor y.desc).map (fun d => d.parameters.length) = some (zna cal - 1)) && decide (0 < zna cal))
set_option maxRecDepth 100000 in
theorem zML_ok : zML.all zMLc = true := by decide +kernel
theorem zmk_in {o i cal k : Nat} (h : zmk o i = some (cal, k)) : ∃ p : Nat × Nat × Nat × Nat × Nat, zMLc (o, i, cal, k, p) = true := by
  unfold zmk at h
  cases hf : zML.find? (fun q => q.1 == o && q.2.1 == i) with
  | none => rw [hf] at h; cases h
  | some q =>
    rw [hf] at h
    have hm := List.mem_of_find?_eq_some hf
    have hp := List.find?_some hf
    simp only [Bool.and_eq_true, beq_iff_eq] at hp
    have hc := List.all_eq_true.mp zML_ok q hm
    simp only [Option.map_some, Option.some.injEq, Prod.mk.injEq] at h
    obtain ⟨q1, q2, q3, q4, q5⟩ := q
    obtain ⟨h1, h2⟩ := h
    obtain ⟨e1, e2⟩ := hp
    simp only at h1 h2 e1 e2
    subst h1; subst h2; subst e1; subst e2
    exact ⟨q5, hc⟩
def zKIc (q : Nat × Nat × Int32 × Nat) : Bool := zzat q.2.2.2 (.constant (zcn q.1) q.2.1 q.2.2.1)
def zKLc (q : Nat × Nat × Int64 × Nat) : Bool := zzat q.2.2.2 (.constantLong (zcn q.1) q.2.1 q.2.2.1)
set_option maxRecDepth 100000 in
theorem zKI_ok : zKI.all zKIc = true := by decide +kernel
set_option maxRecDepth 100000 in
theorem zKL_ok : zKL.all zKLc = true := by decide +kernel
theorem zki_ok {o i : Nat} {v : Int32} (h : zki o i = some v) : Cond.constant (zcn o) i v ∈ zTG := by
  unfold zki at h
  cases hf : zKI.find? (fun q => q.1 == o && q.2.1 == i) with
  | none => rw [hf] at h; cases h
  | some q =>
    rw [hf] at h
    have hp := List.find?_some hf
    simp only [Bool.and_eq_true, beq_iff_eq] at hp
    have hc := List.all_eq_true.mp zKI_ok q (List.mem_of_find?_eq_some hf)
    unfold zKIc at hc
    simp only [Option.map_some, Option.some.injEq] at h
    rw [h, hp.1, hp.2] at hc
    exact zzat_mem hc
theorem zkl_ok {o i : Nat} {v : Int64} (h : zkl o i = some v) : Cond.constantLong (zcn o) i v ∈ zTG := by
  unfold zkl at h
  cases hf : zKL.find? (fun q => q.1 == o && q.2.1 == i) with
  | none => rw [hf] at h; cases h
  | some q =>
    rw [hf] at h
    have hp := List.find?_some hf
    simp only [Bool.and_eq_true, beq_iff_eq] at hp
    have hc := List.all_eq_true.mp zKL_ok q (List.mem_of_find?_eq_some hf)
    unfold zKLc at hc
    simp only [Option.map_some, Option.some.injEq] at h
    rw [h, hp.1, hp.2] at hc
    exact zzat_mem hc
def zCn (ci : Nat) : String := (zcl.getD ci (RX0, TX0, 7)).1
def zNLc (q : Nat × Nat × Nat × Nat × Nat × Nat) : Bool := zzat q.2.2.2.1 (.classLink (zcn q.1) q.2.1 (zCn q.2.2.1)) && zzat q.2.2.2.2.1 (.instantiable (zCn q.2.2.1) (zN q.2.2.1)) && zzat q.2.2.2.2.2 (.initialized (zCn q.2.2.1)) && decide (q.2.2.1 < 9)
set_option maxRecDepth 100000 in
theorem zNL_ok : zNL.all zNLc = true := by decide +kernel
theorem znw_ok {o i ci : Nat} (h : znw o i = some ci) : ci < 9 ∧ Cond.classLink (zcn o) i (zCn ci) ∈ zTG ∧ Cond.instantiable (zCn ci) (zN ci) ∈ zTG ∧ Cond.initialized (zCn ci) ∈ zTG := by
  unfold znw at h
  cases hf : zNL.find? (fun q => q.1 == o && q.2.1 == i) with
  | none => rw [hf] at h; cases h
  | some q =>
    rw [hf] at h
    have hp := List.find?_some hf
    simp only [Bool.and_eq_true, beq_iff_eq] at hp
    have hc := List.all_eq_true.mp zNL_ok q (List.mem_of_find?_eq_some hf)
    unfold zNLc at hc
    simp only [Bool.and_eq_true, decide_eq_true_eq] at hc
    simp only [Option.map_some, Option.some.injEq] at h
    rw [h, hp.1, hp.2] at hc
    exact ⟨hc.2, zzat_mem hc.1.1.1, zzat_mem hc.1.1.2, zzat_mem hc.1.2⟩
/-- types of fields -/
def zrf (t : FieldType) : Bool := match t with
  | .array _ => true
  | .object _ => true
  | _ => false
theorem zrf_ok {t : FieldType} (h : zrf t = true) (a : Nat) : narrow t (.ref a) = .ref a ∧ fits t (.ref a) = true := by
  cases t <;> first | exact ⟨rfl, rfl⟩ | cases h
def zty (ci : Nat) : Nat → FieldType := match ci with
  | 0 => tyX0
  | 1 => tyX1
  | 2 => tyX2
  | 3 => tyX3
  | 4 => tyX4
  | 5 => tyX5
  | 6 => tyX6
  | 7 => tyX7
  | _ => tyX8
def ztyc (ci k : Nat) : Bool := decide (parseFieldDescriptor (zT ci k).2.2.1 = some (zty ci k)) && (if zisI ci k then decide (zty ci k = .int) else zrf (zty ci k))
def zwin (ci : Nat) : Bool := (List.range (zN ci)).all (fun k => goodWord (u_lay (zCn ci) (zT ci) k) && decide (u_lay (zCn ci) (zT ci) k ∈ lw_tbl))
set_option maxRecDepth 100000 in
theorem ztyc_ok : (List.range 9).all (fun ci => (List.range (zN ci)).all (ztyc ci)) = true := by decide +kernel
set_option maxRecDepth 100000 in
theorem zwin_ok : (List.range 9).all zwin = true := by decide +kernel
set_option maxRecDepth 100000 in
theorem znm_ok : (List.range 9).all (fun ci => (List.range (zN ci)).all (fun a => (List.range (zN ci)).all (fun b => decide (a = b) || decide ((zT ci a).2.1 ≠ (zT ci b).2.1)))) = true := by decide +kernel
theorem zcl_at {ci : Nat} (h : ci < 9) : zcl[ci]? = some (zCn ci, zT ci, zN ci) := by
  have hl : zcl.length = 9 := rfl
  unfold zCn zT zN
  rw [List.getD_eq_getElem?_getD, List.getElem?_eq_getElem (by omega)]
  rfl
theorem zws_in {ci : Nat} (h : ci < 9) : ∀ w ∈ u_ws (zCn ci) (zT ci) (zN ci), w ∈ zTG := by
  intro w hw
  unfold u_ws at hw
  obtain ⟨k, hk, rfl⟩ := List.mem_map.mp hw
  have h1 := List.all_eq_true.mp zwin_ok ci (List.mem_range.mpr h)
  have h2 := List.all_eq_true.mp h1 k hk
  rw [Bool.and_eq_true, decide_eq_true_eq] at h2
  exact List.mem_filter.mpr ⟨h2.2, h2.1⟩
theorem zty_ok {ci : Nat} (h : ci < 9) : ∀ k, k < zN ci → parseFieldDescriptor (zT ci k).2.2.1 = some (zty ci k) := by
  intro k hk
  have h1 := List.all_eq_true.mp (List.all_eq_true.mp ztyc_ok ci (List.mem_range.mpr h)) k (List.mem_range.mpr hk)
  unfold ztyc at h1
  rw [Bool.and_eq_true, decide_eq_true_eq] at h1
  exact h1.1
theorem zty_v {ci : Nat} (h : ci < 9) {k : Nat} (hk : k < zN ci) : if zisI ci k then zty ci k = .int else zrf (zty ci k) = true := by
  have h1 := List.all_eq_true.mp (List.all_eq_true.mp ztyc_ok ci (List.mem_range.mpr h)) k (List.mem_range.mpr hk)
  unfold ztyc at h1
  rw [Bool.and_eq_true] at h1
  have h2 := h1.2
  split at h2
  · next hz => rw [if_pos hz]; exact of_decide_eq_true h2
  · next hz => rw [if_neg hz]; exact h2
theorem znm {ci : Nat} (h : ci < 9) : ∀ a, a < zN ci → ∀ b, b < zN ci → a ≠ b → (zT ci a).2.1 ≠ (zT ci b).2.1 := by
  intro a ha b hb hab
  have h1 := List.all_eq_true.mp (List.all_eq_true.mp (List.all_eq_true.mp znm_ok ci (List.mem_range.mpr h)) a (List.mem_range.mpr ha)) b (List.mem_range.mpr hb)
  simp only [Bool.or_eq_true, decide_eq_true_eq] at h1
  exact h1.resolve_left hab
theorem zdf_v {ci : Nat} (h : ci < 9) : ∀ j, j < zN ci → defaultValue (zty ci j) = vp_V (zdf ci) j := by
  intro j hj
  have h1 := zty_v h hj
  have e : vp_V (zdf ci) j = if zisI ci j then .int 0 else .null := by
    unfold vp_V zdf
    rw [List.getD_eq_getElem?_getD, List.getElem?_map, List.getElem?_range hj]
    rfl
  rw [e]
  split at h1
  · next hz => rw [if_pos hz, h1]; rfl
  · next hz =>
    rw [if_neg hz]
    revert h1
    cases zty ci j <;> intro h1 <;> first | rfl | cases h1
