/-! THE MEMORY behind the constructors -/
def cw_up (R : Nat → Nat → Option Nat) (l : List (Nat × Nat × Nat)) : Nat → Nat → Option Nat := l.foldl (fun R q => pm_upR R q.1 q.2.1 (some q.2.2)) R
def cw_tl (t : Nat) : List (Nat × Nat × Nat) := [(t, 0, t + 1), (t, 1, t + 2), (t, 2, t + 3), (t, 3, t + 4), (t, 4, t + 5), (t, 5, t + 6)]
def cw_gl (t : Nat) : List (Nat × Nat × Nat) := [(t, 0, t + 1), (t, 1, t + 2), (t, 6, t + 3), (t, 7, t + 4), (t, 8, t + 5)]
/-- the Tables of an array x, from cell b on -/
def cw_tn (x b : Nat) : Nat → List (Nat × Nat × Nat)
  | 0 => []
  | n + 1 => cw_tn x b n ++ (cw_tl (b + 7 * n) ++ [(x, n, b + 7 * n)])
def cw_mul (R : Nat → Nat → Option Nat) : Nat → Nat → Option Nat := fun x j => if x = 19 then (if j < 11 then some (20 + j) else none) else if 19 ≤ x ∧ x < 31 then none else R x j
def cw_l1 : List (Nat × Nat × Nat) := [(1, 0, 2)] ++ cw_gl 3 ++ [(1, 2, 3), (0, 0, 1)] ++ cw_gl 10 ++ [(9, 0, 10), (9, 1, 16), (0, 1, 9), (17, 0, 18)]
def cw_l2 : List (Nat × Nat × Nat) := [(17, 1, 19)] ++ cw_tn 18 31 11 ++ [(0, 2, 17)] ++ cw_tl 108 ++ [(0, 3, 108), (0, 4, 115), (0, 7, 116), (0, 8, 117)] ++ cw_tn 115 118 60
def cw_l3 : List (Nat × Nat × Nat) := [(538, 2, 539), (538, 6, 540), (538, 7, 541), (538, 9, 542), (538, 11, 543), (538, 12, 544), (538, 18, 545), (538, 19, 546), (538, 22, 547), (538, 23, 548), (538, 25, 549), (538, 27, 550), (538, 28, 551), (538, 30, 552), (538, 31, 553), (538, 32, 554), (538, 33, 555), (538, 34, 556), (538, 35, 557), (538, 36, 558)]
def cw_R0 : Nat → Nat → Option Nat := cw_up (cw_up (cw_mul (cw_up (fun _ _ => none) cw_l1)) cw_l2) cw_l3
def cw_R (k : Nat) : Nat → Nat → Option Nat := if k = 0 then cw_R0 else pm_upR cw_R0 30000 0 (some k)
def cw_L (o : Int64) : Nat → Nat → Int64 := fun x j => if x = 559 ∧ j = 0 then o else 0
/-- ints, exceptions thrown, the law's out -/
def Wm (I : Nat → Nat → Int32) (k : Nat) (o : Int64) : pm_Mem := (560, I, cw_R k, cw_L o)
section CW
variable {I J : Nat → Nat → Int32} {k : Nat} {o v : Int64}
theorem W_1 : (Wm I k o).1 = 560 := rfl
theorem W_I : (Wm I k o).2.1 = I := rfl
theorem W_L : (Wm I k o).2.2.2 559 0 = o := rfl
theorem W_mk : ((560, J, (Wm I k o).2.2) : pm_Mem) = Wm J k o := rfl
theorem W_sl : ((560, I, (Wm I k o).2.2.1, pm_upL (Wm I k o).2.2.2 559 0 v) : pm_Mem) = Wm I k v := by
  have e : pm_upL (cw_L o) 559 0 v = cw_L v := by
    funext x j
    unfold pm_upL cw_L
    by_cases h : x = 559 ∧ j = 0
    · rw [if_pos h, if_pos h]
    · rw [if_neg h, if_neg h, if_neg h]
  show ((560, I, cw_R k, pm_upL (cw_L o) 559 0 v) : pm_Mem) = (560, I, cw_R k, cw_L v)
  rw [e]
theorem W_z : cw_R0 30000 0 = none := by decide +kernel
theorem W_ct : pm_ct (Wm I k o) = k := by
  show ((cw_R k) 30000 0).getD 0 = k
  unfold cw_R
  split
  · rename_i h; rw [W_z, h]; rfl
  · rfl
theorem W_tk : pm_tk (Wm I k o) = Wm I (k + 1) o := by
  unfold pm_tk
  rw [W_ct]
  show ((560, I, pm_upR (cw_R k) 30000 0 (some (k + 1)), cw_L o) : pm_Mem) = (560, I, cw_R (k + 1), cw_L o)
  have e : pm_upR (cw_R k) 30000 0 (some (k + 1)) = cw_R (k + 1) := by
    unfold cw_R
    rw [if_neg (Nat.succ_ne_zero k)]
    split
    · rfl
    · funext x j
      unfold pm_upR
      by_cases h : x = 30000 ∧ j = 0
      · rw [if_pos h, if_pos h]
      · rw [if_neg h, if_neg h, if_neg h]
  rw [e]
theorem W_rf {x j : Nat} (h : x < 30000) : (Wm I k o).2.2.1 x j = cw_R0 x j := by
  show cw_R k x j = _
  unfold cw_R
  split
  · rfl
  · exact if_neg (fun q => by omega)
theorem W_arr {x kk : Nat} {i : Int32} : pm_arr (Wm I k o) x kk i ↔ (x < 560 ∧ (pm_sh x).1 = 1 + kk) ∧ vp_in i (pm_sh x).2 := ⟨fun h => ⟨⟨h.1, h.2.1⟩, h.2.2⟩, fun h => ⟨h.1.1, h.1.2, h.2⟩⟩
theorem rf_0_0 : (Wm I k o).2.2.1 0 0 = some 1 := (W_rf (by decide)).trans (by decide +kernel)
theorem rf_0_1 : (Wm I k o).2.2.1 0 1 = some 9 := (W_rf (by decide)).trans (by decide +kernel)
theorem rf_0_2 : (Wm I k o).2.2.1 0 2 = some 17 := (W_rf (by decide)).trans (by decide +kernel)
theorem rf_0_3 : (Wm I k o).2.2.1 0 3 = some 108 := (W_rf (by decide)).trans (by decide +kernel)
theorem rf_0_4 : (Wm I k o).2.2.1 0 4 = some 115 := (W_rf (by decide)).trans (by decide +kernel)
theorem rf_0_7 : (Wm I k o).2.2.1 0 7 = some 116 := (W_rf (by decide)).trans (by decide +kernel)
theorem rf_0_8 : (Wm I k o).2.2.1 0 8 = some 117 := (W_rf (by decide)).trans (by decide +kernel)
theorem rf_1_0 : (Wm I k o).2.2.1 1 0 = some 2 := (W_rf (by decide)).trans (by decide +kernel)
theorem rf_1_2 : (Wm I k o).2.2.1 1 2 = some 3 := (W_rf (by decide)).trans (by decide +kernel)
theorem rf_3_0 : (Wm I k o).2.2.1 3 0 = some 4 := (W_rf (by decide)).trans (by decide +kernel)
theorem rf_3_1 : (Wm I k o).2.2.1 3 1 = some 5 := (W_rf (by decide)).trans (by decide +kernel)
theorem rf_3_6 : (Wm I k o).2.2.1 3 6 = some 6 := (W_rf (by decide)).trans (by decide +kernel)
theorem rf_3_7 : (Wm I k o).2.2.1 3 7 = some 7 := (W_rf (by decide)).trans (by decide +kernel)
theorem rf_3_8 : (Wm I k o).2.2.1 3 8 = some 8 := (W_rf (by decide)).trans (by decide +kernel)
theorem rf_9_0 : (Wm I k o).2.2.1 9 0 = some 10 := (W_rf (by decide)).trans (by decide +kernel)
theorem rf_9_1 : (Wm I k o).2.2.1 9 1 = some 16 := (W_rf (by decide)).trans (by decide +kernel)
theorem rf_10_0 : (Wm I k o).2.2.1 10 0 = some 11 := (W_rf (by decide)).trans (by decide +kernel)
theorem rf_10_1 : (Wm I k o).2.2.1 10 1 = some 12 := (W_rf (by decide)).trans (by decide +kernel)
theorem rf_10_6 : (Wm I k o).2.2.1 10 6 = some 13 := (W_rf (by decide)).trans (by decide +kernel)
theorem rf_10_7 : (Wm I k o).2.2.1 10 7 = some 14 := (W_rf (by decide)).trans (by decide +kernel)
theorem rf_10_8 : (Wm I k o).2.2.1 10 8 = some 15 := (W_rf (by decide)).trans (by decide +kernel)
theorem rf_17_0 : (Wm I k o).2.2.1 17 0 = some 18 := (W_rf (by decide)).trans (by decide +kernel)
theorem rf_17_1 : (Wm I k o).2.2.1 17 1 = some 19 := (W_rf (by decide)).trans (by decide +kernel)
theorem rf_538_2 : (Wm I k o).2.2.1 538 2 = some 539 := (W_rf (by decide)).trans (by decide +kernel)
theorem rf_538_6 : (Wm I k o).2.2.1 538 6 = some 540 := (W_rf (by decide)).trans (by decide +kernel)
theorem rf_538_7 : (Wm I k o).2.2.1 538 7 = some 541 := (W_rf (by decide)).trans (by decide +kernel)
theorem rf_538_9 : (Wm I k o).2.2.1 538 9 = some 542 := (W_rf (by decide)).trans (by decide +kernel)
theorem rf_538_11 : (Wm I k o).2.2.1 538 11 = some 543 := (W_rf (by decide)).trans (by decide +kernel)
theorem rf_538_12 : (Wm I k o).2.2.1 538 12 = some 544 := (W_rf (by decide)).trans (by decide +kernel)
theorem rf_538_18 : (Wm I k o).2.2.1 538 18 = some 545 := (W_rf (by decide)).trans (by decide +kernel)
theorem rf_538_19 : (Wm I k o).2.2.1 538 19 = some 546 := (W_rf (by decide)).trans (by decide +kernel)
theorem rf_538_22 : (Wm I k o).2.2.1 538 22 = some 547 := (W_rf (by decide)).trans (by decide +kernel)
theorem rf_538_23 : (Wm I k o).2.2.1 538 23 = some 548 := (W_rf (by decide)).trans (by decide +kernel)
theorem rf_538_25 : (Wm I k o).2.2.1 538 25 = some 549 := (W_rf (by decide)).trans (by decide +kernel)
theorem rf_538_27 : (Wm I k o).2.2.1 538 27 = some 550 := (W_rf (by decide)).trans (by decide +kernel)
theorem rf_538_28 : (Wm I k o).2.2.1 538 28 = some 551 := (W_rf (by decide)).trans (by decide +kernel)
theorem rf_538_30 : (Wm I k o).2.2.1 538 30 = some 552 := (W_rf (by decide)).trans (by decide +kernel)
theorem rf_538_31 : (Wm I k o).2.2.1 538 31 = some 553 := (W_rf (by decide)).trans (by decide +kernel)
theorem rf_538_32 : (Wm I k o).2.2.1 538 32 = some 554 := (W_rf (by decide)).trans (by decide +kernel)
theorem rf_538_33 : (Wm I k o).2.2.1 538 33 = some 555 := (W_rf (by decide)).trans (by decide +kernel)
theorem rf_538_34 : (Wm I k o).2.2.1 538 34 = some 556 := (W_rf (by decide)).trans (by decide +kernel)
theorem rf_538_35 : (Wm I k o).2.2.1 538 35 = some 557 := (W_rf (by decide)).trans (by decide +kernel)
theorem rf_538_36 : (Wm I k o).2.2.1 538 36 = some 558 := (W_rf (by decide)).trans (by decide +kernel)
theorem ob_0 : pm_obj (Wm I k o) 0 5 := by exact ⟨Nat.le_of_ble_eq_true rfl, by decide +kernel⟩
theorem ob_1 : pm_obj (Wm I k o) 1 2 := by exact ⟨Nat.le_of_ble_eq_true rfl, by decide +kernel⟩
theorem ob_3 : pm_obj (Wm I k o) 3 0 := by exact ⟨Nat.le_of_ble_eq_true rfl, by decide +kernel⟩
theorem ob_9 : pm_obj (Wm I k o) 9 1 := by exact ⟨Nat.le_of_ble_eq_true rfl, by decide +kernel⟩
theorem ob_10 : pm_obj (Wm I k o) 10 0 := by exact ⟨Nat.le_of_ble_eq_true rfl, by decide +kernel⟩
theorem ob_17 : pm_obj (Wm I k o) 17 3 := by exact ⟨Nat.le_of_ble_eq_true rfl, by decide +kernel⟩
theorem ob_538 : pm_obj (Wm I k o) 538 6 := by exact ⟨Nat.le_of_ble_eq_true rfl, by decide +kernel⟩
theorem ar_2 {i : Int32} : pm_arr (Wm I k o) 2 1 i ↔ vp_in i 240 := W_arr.trans (and_iff_right ⟨by decide, by decide +kernel⟩)
theorem ar_4 {i : Int32} : pm_arr (Wm I k o) 4 0 i ↔ vp_in i 160 := W_arr.trans (and_iff_right ⟨by decide, by decide +kernel⟩)
theorem ar_5 {i : Int32} : pm_arr (Wm I k o) 5 0 i ↔ vp_in i 160 := W_arr.trans (and_iff_right ⟨by decide, by decide +kernel⟩)
theorem ar_6 {i : Int32} : pm_arr (Wm I k o) 6 0 i ↔ vp_in i 8 := W_arr.trans (and_iff_right ⟨by decide, by decide +kernel⟩)
theorem ar_7 {i : Int32} : pm_arr (Wm I k o) 7 0 i ↔ vp_in i 8 := W_arr.trans (and_iff_right ⟨by decide, by decide +kernel⟩)
theorem ar_8 {i : Int32} : pm_arr (Wm I k o) 8 0 i ↔ vp_in i 8 := W_arr.trans (and_iff_right ⟨by decide, by decide +kernel⟩)
theorem ar_11 {i : Int32} : pm_arr (Wm I k o) 11 0 i ↔ vp_in i 160 := W_arr.trans (and_iff_right ⟨by decide, by decide +kernel⟩)
theorem ar_12 {i : Int32} : pm_arr (Wm I k o) 12 0 i ↔ vp_in i 160 := W_arr.trans (and_iff_right ⟨by decide, by decide +kernel⟩)
theorem ar_13 {i : Int32} : pm_arr (Wm I k o) 13 0 i ↔ vp_in i 8 := W_arr.trans (and_iff_right ⟨by decide, by decide +kernel⟩)
theorem ar_14 {i : Int32} : pm_arr (Wm I k o) 14 0 i ↔ vp_in i 8 := W_arr.trans (and_iff_right ⟨by decide, by decide +kernel⟩)
theorem ar_15 {i : Int32} : pm_arr (Wm I k o) 15 0 i ↔ vp_in i 8 := W_arr.trans (and_iff_right ⟨by decide, by decide +kernel⟩)
theorem ar_16 {i : Int32} : pm_arr (Wm I k o) 16 0 i ↔ vp_in i 160 := W_arr.trans (and_iff_right ⟨by decide, by decide +kernel⟩)
theorem ar_116 {i : Int32} : pm_arr (Wm I k o) 116 0 i ↔ vp_in i 24 := W_arr.trans (and_iff_right ⟨by decide, by decide +kernel⟩)
theorem ar_117 {i : Int32} : pm_arr (Wm I k o) 117 0 i ↔ vp_in i 192 := W_arr.trans (and_iff_right ⟨by decide, by decide +kernel⟩)
theorem ar_539 {i : Int32} : pm_arr (Wm I k o) 539 0 i ↔ vp_in i 240 := W_arr.trans (and_iff_right ⟨by decide, by decide +kernel⟩)
theorem ar_540 {i : Int32} : pm_arr (Wm I k o) 540 0 i ↔ vp_in i 500 := W_arr.trans (and_iff_right ⟨by decide, by decide +kernel⟩)
theorem ar_541 {i : Int32} : pm_arr (Wm I k o) 541 0 i ↔ vp_in i 500 := W_arr.trans (and_iff_right ⟨by decide, by decide +kernel⟩)
theorem ar_542 {i : Int32} : pm_arr (Wm I k o) 542 0 i ↔ vp_in i 250 := W_arr.trans (and_iff_right ⟨by decide, by decide +kernel⟩)
theorem ar_543 {i : Int32} : pm_arr (Wm I k o) 543 2 i ↔ vp_in i 8 := W_arr.trans (and_iff_right ⟨by decide, by decide +kernel⟩)
theorem ar_544 {i : Int32} : pm_arr (Wm I k o) 544 0 i ↔ vp_in i 8 := W_arr.trans (and_iff_right ⟨by decide, by decide +kernel⟩)
theorem ar_545 {i : Int32} : pm_arr (Wm I k o) 545 2 i ↔ vp_in i 8 := W_arr.trans (and_iff_right ⟨by decide, by decide +kernel⟩)
theorem ar_546 {i : Int32} : pm_arr (Wm I k o) 546 0 i ↔ vp_in i 8 := W_arr.trans (and_iff_right ⟨by decide, by decide +kernel⟩)
theorem ar_547 {i : Int32} : pm_arr (Wm I k o) 547 0 i ↔ vp_in i 160 := W_arr.trans (and_iff_right ⟨by decide, by decide +kernel⟩)
theorem ar_548 {i : Int32} : pm_arr (Wm I k o) 548 0 i ↔ vp_in i 160 := W_arr.trans (and_iff_right ⟨by decide, by decide +kernel⟩)
theorem ar_549 {i : Int32} : pm_arr (Wm I k o) 549 0 i ↔ vp_in i 157 := W_arr.trans (and_iff_right ⟨by decide, by decide +kernel⟩)
theorem ar_550 {i : Int32} : pm_arr (Wm I k o) 550 0 i ↔ vp_in i 9420 := W_arr.trans (and_iff_right ⟨by decide, by decide +kernel⟩)
theorem ar_551 {i : Int32} : pm_arr (Wm I k o) 551 0 i ↔ vp_in i 250 := W_arr.trans (and_iff_right ⟨by decide, by decide +kernel⟩)
theorem ar_552 {i : Int32} : pm_arr (Wm I k o) 552 0 i ↔ vp_in i 11 := W_arr.trans (and_iff_right ⟨by decide, by decide +kernel⟩)
theorem ar_553 {i : Int32} : pm_arr (Wm I k o) 553 0 i ↔ vp_in i 2200 := W_arr.trans (and_iff_right ⟨by decide, by decide +kernel⟩)
theorem ar_554 {i : Int32} : pm_arr (Wm I k o) 554 0 i ↔ vp_in i 2200 := W_arr.trans (and_iff_right ⟨by decide, by decide +kernel⟩)
theorem ar_555 {i : Int32} : pm_arr (Wm I k o) 555 0 i ↔ vp_in i 11 := W_arr.trans (and_iff_right ⟨by decide, by decide +kernel⟩)
theorem ar_556 {i : Int32} : pm_arr (Wm I k o) 556 0 i ↔ vp_in i 11 := W_arr.trans (and_iff_right ⟨by decide, by decide +kernel⟩)
theorem ar_557 {i : Int32} : pm_arr (Wm I k o) 557 0 i ↔ vp_in i 11 := W_arr.trans (and_iff_right ⟨by decide, by decide +kernel⟩)
theorem ar_558 {i : Int32} : pm_arr (Wm I k o) 558 0 i ↔ vp_in i 1727 := W_arr.trans (and_iff_right ⟨by decide, by decide +kernel⟩)
theorem ar_18 {i : Int32} : pm_arr (Wm I k o) 18 4 i ↔ vp_in i 11 := W_arr.trans (and_iff_right ⟨by decide, by decide +kernel⟩)
theorem ar_19 {i : Int32} : pm_arr (Wm I k o) 19 5 i ↔ vp_in i 11 := W_arr.trans (and_iff_right ⟨by decide, by decide +kernel⟩)
theorem ar_115 {i : Int32} : pm_arr (Wm I k o) 115 4 i ↔ vp_in i 60 := W_arr.trans (and_iff_right ⟨by decide, by decide +kernel⟩)
theorem ar_559 {i : Int32} : pm_arr (Wm I k o) 559 3 i ↔ vp_in i 1 := W_arr.trans (and_iff_right ⟨by decide, by decide +kernel⟩)
/-- where a Table may stand -/
def tb (t : Nat) : Prop := t = 108 ∨ (∃ h, h < 60 ∧ t = 118 + 7 * h) ∨ (∃ h, h < 11 ∧ t = 31 + 7 * h)
theorem tb_all {P : Nat → Prop} (h1 : P 108) (h2 : ∀ h, h < 60 → P (118 + 7 * h)) (h3 : ∀ h, h < 11 → P (31 + 7 * h)) : ∀ t, tb t → P t := by
  rintro t (rfl | ⟨h, hh, rfl⟩ | ⟨h, hh, rfl⟩)
  · exact h1
  · exact h2 h hh
  · exact h3 h hh
theorem tb_lt {t : Nat} (h : tb t) : t + 7 ≤ 538 := by
  rcases h with rfl | ⟨h, hh, rfl⟩ | ⟨h, hh, rfl⟩ <;> omega
theorem tb_sh : ∀ t, tb t → pm_sh t = (0, 4) ∧ pm_sh (t + 1) = (1, 24) ∧ pm_sh (t + 2) = (1, 24) ∧ pm_sh (t + 3) = (1, 6) ∧ pm_sh (t + 4) = (1, 6) ∧ pm_sh (t + 5) = (1, 4) ∧ pm_sh (t + 6) = (1, 2) := tb_all (by decide +kernel) (by decide +kernel) (by decide +kernel)
theorem tb_rf : ∀ t, tb t → cw_R0 t 0 = some (t + 1) ∧ cw_R0 t 1 = some (t + 2) ∧ cw_R0 t 2 = some (t + 3) ∧ cw_R0 t 3 = some (t + 4) ∧ cw_R0 t 4 = some (t + 5) ∧ cw_R0 t 5 = some (t + 6) := tb_all (by decide +kernel) (by decide +kernel) (by decide +kernel)
theorem tb_18 : ∀ h, h < 11 → cw_R0 18 h = some (31 + 7 * h) ∧ cw_R0 19 h = some (20 + h) := by decide +kernel
theorem tb_115 : ∀ h, h < 60 → cw_R0 115 h = some (118 + 7 * h) := by decide +kernel
theorem rf_18 {h : Nat} (hh : h < 11) : (Wm I k o).2.2.1 18 h = some (31 + 7 * h) := (W_rf (by decide)).trans (tb_18 h hh).1
theorem rf_19 {h : Nat} (hh : h < 11) : (Wm I k o).2.2.1 19 h = some (20 + h) := (W_rf (by decide)).trans (tb_18 h hh).2
theorem rf_115 {h : Nat} (hh : h < 60) : (Wm I k o).2.2.1 115 h = some (118 + 7 * h) := (W_rf (by decide)).trans (tb_115 h hh)
theorem tb_108 : tb 108 := Or.inl rfl
theorem tb_h {h : Nat} (hh : h < 60) : tb (118 + 7 * h) := Or.inr (Or.inl ⟨h, hh, rfl⟩)
theorem tb_s {h : Nat} (hh : h < 11) : tb (31 + 7 * h) := Or.inr (Or.inr ⟨h, hh, rfl⟩)
variable {t : Nat}
theorem ob_t (ht : tb t) : pm_obj (Wm I k o) t 4 := ⟨by have := tb_lt ht; show t < 560; omega, (tb_sh t ht).1⟩
theorem rt_0 (ht : tb t) : (Wm I k o).2.2.1 t 0 = some (t + 1) := (W_rf (by have := tb_lt ht; omega)).trans (tb_rf t ht).1
theorem at_0 (ht : tb t) {i : Int32} : pm_arr (Wm I k o) (t + 1) 0 i ↔ vp_in i 24 := by
  have hs := (tb_sh t ht).2.1
  rw [W_arr, hs]
  exact and_iff_right ⟨by have := tb_lt ht; omega, rfl⟩
theorem rt_1 (ht : tb t) : (Wm I k o).2.2.1 t 1 = some (t + 2) := (W_rf (by have := tb_lt ht; omega)).trans (tb_rf t ht).2.1
theorem at_1 (ht : tb t) {i : Int32} : pm_arr (Wm I k o) (t + 2) 0 i ↔ vp_in i 24 := by
  have hs := (tb_sh t ht).2.2.1
  rw [W_arr, hs]
  exact and_iff_right ⟨by have := tb_lt ht; omega, rfl⟩
theorem rt_2 (ht : tb t) : (Wm I k o).2.2.1 t 2 = some (t + 3) := (W_rf (by have := tb_lt ht; omega)).trans (tb_rf t ht).2.2.1
theorem at_2 (ht : tb t) {i : Int32} : pm_arr (Wm I k o) (t + 3) 0 i ↔ vp_in i 6 := by
  have hs := (tb_sh t ht).2.2.2.1
  rw [W_arr, hs]
  exact and_iff_right ⟨by have := tb_lt ht; omega, rfl⟩
theorem rt_3 (ht : tb t) : (Wm I k o).2.2.1 t 3 = some (t + 4) := (W_rf (by have := tb_lt ht; omega)).trans (tb_rf t ht).2.2.2.1
theorem at_3 (ht : tb t) {i : Int32} : pm_arr (Wm I k o) (t + 4) 0 i ↔ vp_in i 6 := by
  have hs := (tb_sh t ht).2.2.2.2.1
  rw [W_arr, hs]
  exact and_iff_right ⟨by have := tb_lt ht; omega, rfl⟩
theorem rt_4 (ht : tb t) : (Wm I k o).2.2.1 t 4 = some (t + 5) := (W_rf (by have := tb_lt ht; omega)).trans (tb_rf t ht).2.2.2.2.1
theorem at_4 (ht : tb t) {i : Int32} : pm_arr (Wm I k o) (t + 5) 0 i ↔ vp_in i 4 := by
  have hs := (tb_sh t ht).2.2.2.2.2.1
  rw [W_arr, hs]
  exact and_iff_right ⟨by have := tb_lt ht; omega, rfl⟩
theorem rt_5 (ht : tb t) : (Wm I k o).2.2.1 t 5 = some (t + 6) := (W_rf (by have := tb_lt ht; omega)).trans (tb_rf t ht).2.2.2.2.2
theorem at_5 (ht : tb t) {i : Int32} : pm_arr (Wm I k o) (t + 6) 0 i ↔ vp_in i 2 := by
  have hs := (tb_sh t ht).2.2.2.2.2.2
  rw [W_arr, hs]
  exact and_iff_right ⟨by have := tb_lt ht; omega, rfl⟩
end CW
