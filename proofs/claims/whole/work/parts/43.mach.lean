/-! THE CLASS: Table's copies; Machine's small parts -/
section MAC
variable {d k t : Nat} {o : Int64} {I : Nat → Nat → Int32} {q : pm_Res}
theorem cp_ne {I : Nat → Nat → Int32} {a sp b dp n c j : Nat} (h : c ≠ b) : pm_cpy I a sp b dp n c j = I c j := if_neg (fun q => h q.1)
def cpT (t u : Nat) (I : Nat → Nat → Int32) : Nat → Nat → Int32 := pm_up (pm_cpy (pm_cpy (pm_cpy (pm_cpy (pm_cpy (pm_cpy I (u + 1) 0 (t + 1) 0 24) (u + 2) 0 (t + 2) 0 24) (u + 3) 0 (t + 3) 0 6) (u + 4) 0 (t + 4) 0 6) (u + 5) 0 (t + 5) 0 4) (u + 6) 0 (t + 6) 0 2) t 6 (I u 6)
theorem cpT_at {u x j : Nat} (hs : t + 7 ≤ u ∨ u + 7 ≤ t) : cpT t u I x j = if x = t ∧ j = 6 then I u 6 else if x = t + 6 ∧ j < 2 then I (u + 6) j else if x = t + 5 ∧ j < 4 then I (u + 5) j else if x = t + 4 ∧ j < 6 then I (u + 4) j else if x = t + 3 ∧ j < 6 then I (u + 3) j else if x = t + 2 ∧ j < 24 then I (u + 2) j else if x = t + 1 ∧ j < 24 then I (u + 1) j else I x j := by
  unfold cpT
  simp only [up_at, cp_at, Nat.zero_le, Nat.zero_add, Nat.sub_zero, true_and]
  have h1 : ∀ a b : Nat, a < 7 → b < 7 → u + a ≠ t + b := fun a b ha hb => by omega
  simp only [if_neg (show ¬ (u + 6 = t + 5 ∧ j < 4) from fun q => h1 6 5 (by omega) (by omega) q.1), if_neg (show ¬ (u + 6 = t + 4 ∧ j < 6) from fun q => h1 6 4 (by omega) (by omega) q.1), if_neg (show ¬ (u + 6 = t + 3 ∧ j < 6) from fun q => h1 6 3 (by omega) (by omega) q.1), if_neg (show ¬ (u + 6 = t + 2 ∧ j < 24) from fun q => h1 6 2 (by omega) (by omega) q.1), if_neg (show ¬ (u + 6 = t + 1 ∧ j < 24) from fun q => h1 6 1 (by omega) (by omega) q.1),
    if_neg (show ¬ (u + 5 = t + 4 ∧ j < 6) from fun q => h1 5 4 (by omega) (by omega) q.1), if_neg (show ¬ (u + 5 = t + 3 ∧ j < 6) from fun q => h1 5 3 (by omega) (by omega) q.1), if_neg (show ¬ (u + 5 = t + 2 ∧ j < 24) from fun q => h1 5 2 (by omega) (by omega) q.1), if_neg (show ¬ (u + 5 = t + 1 ∧ j < 24) from fun q => h1 5 1 (by omega) (by omega) q.1),
    if_neg (show ¬ (u + 4 = t + 3 ∧ j < 6) from fun q => h1 4 3 (by omega) (by omega) q.1), if_neg (show ¬ (u + 4 = t + 2 ∧ j < 24) from fun q => h1 4 2 (by omega) (by omega) q.1), if_neg (show ¬ (u + 4 = t + 1 ∧ j < 24) from fun q => h1 4 1 (by omega) (by omega) q.1),
    if_neg (show ¬ (u + 3 = t + 2 ∧ j < 24) from fun q => h1 3 2 (by omega) (by omega) q.1), if_neg (show ¬ (u + 3 = t + 1 ∧ j < 24) from fun q => h1 3 1 (by omega) (by omega) q.1), if_neg (show ¬ (u + 2 = t + 1 ∧ j < 24) from fun q => h1 2 1 (by omega) (by omega) q.1)]
theorem c110 {u : Nat} (ht : tb t) (hu : tb u) (hs : t + 7 ≤ u ∨ u + 7 ≤ t) : pm_C (d + 1) 110 [.ref t, .ref u] (Wm I k o) q ↔ q = (.inl none, Wm (cpT t u I) k o) := by
  have hs1 := tb_sh t ht
  have hs2 := tb_sh u hu
  have hl1 := tb_lt ht
  have hl2 := tb_lt hu
  rw [n110]
  simp only [q110_0, q110_1, q110_4, q110_5, q110_6, q110_9, q110_10, q110_12, q110_15, q110_16, q110_19, q110_20, q110_21, q110_24, q110_25, q110_27, q110_30, q110_31, q110_34, q110_35, q110_36, q110_39, q110_40, q110_42, q110_45, q110_46, q110_49, q110_50, q110_51, q110_54, q110_55, q110_57, q110_60, q110_61, q110_64, q110_65, q110_66, q110_69, q110_70, q110_71, q110_74, q110_75, q110_78, q110_79, q110_80, q110_83, q110_84, q110_85, q110_88, q110_89, q110_90, q110_93, q110_96, W_1, W_I, W_mk, W_tk, pm_rv, rf_0_0, rf_0_1, rf_0_2, rf_0_3, rf_0_4, rf_0_7, rf_0_8, rf_1_0, rf_1_2, rf_3_0, rf_3_1, rf_3_6, rf_3_7, rf_3_8, rf_9_0, rf_9_1, rf_10_0, rf_10_1, rf_10_6, rf_10_7, rf_10_8, rf_17_0, rf_17_1, rf_538_2, rf_538_6, rf_538_7, rf_538_9, rf_538_11, rf_538_12, rf_538_18, rf_538_19, rf_538_22, rf_538_23, rf_538_25, rf_538_27, rf_538_28, rf_538_30, rf_538_31, rf_538_32, rf_538_33, rf_538_34, rf_538_35, rf_538_36, ob_0, ob_1, ob_3, ob_9, ob_10, ob_17, ob_538, ar_2, ar_4, ar_5, ar_6, ar_7, ar_8, ar_11, ar_12, ar_13, ar_14, ar_15, ar_16, ar_116, ar_117, ar_539, ar_540, ar_541, ar_542, ar_543, ar_544, ar_545, ar_546, ar_547, ar_548, ar_549, ar_550, ar_551, ar_552, ar_553, ar_554, ar_555, ar_556, ar_557, ar_558, ob_t ht, rt_0 ht, at_0 ht, rt_1 ht, at_1 ht, rt_2 ht, at_2 ht, rt_3 ht, at_3 ht, rt_4 ht, at_4 ht, rt_5 ht, at_5 ht, ex_eq, ex_ite, pm_bk_r, pm_bk_t, ol_nil, ol_one, true_and, and_true, false_and, and_false, reduceIte, Nat.reduceEqDiff, up_at, Nat.add_left_cancel_iff, kc0, kn0, kc1, kn1, kc2, kn2, kc4, kn4, kc5, kn5, kc6, kn6, kc8, kn8, kc10, kn10, kc24, kn24, kc60, kn60, kc160, kn160, kc192, kn192, kc240, kn240, ob_t hu, rt_0 hu, rt_1 hu, rt_2 hu, rt_3 hu, rt_4 hu, rt_5 hu, hs1.2.1, hs1.2.2.1, hs1.2.2.2.1, hs1.2.2.2.2.1, hs1.2.2.2.2.2.1, hs1.2.2.2.2.2.2, hs2.2.1, hs2.2.2.1, hs2.2.2.2.1, hs2.2.2.2.2.1, hs2.2.2.2.2.2.1, hs2.2.2.2.2.2.2, show t + 1 < 560 by omega, show t + 2 < 560 by omega, show t + 3 < 560 by omega, show t + 4 < 560 by omega, show t + 5 < 560 by omega, show t + 6 < 560 by omega, show u + 1 < 560 by omega, show u + 2 < 560 by omega, show u + 3 < 560 by omega, show u + 4 < 560 by omega, show u + 5 < 560 by omega, show u + 6 < 560 by omega, Nat.zero_add, Nat.le_refl, not_false_eq_true, Nat.reduceLeDiff, cp_ne (show u ≠ t + 1 by omega), cp_ne (show u ≠ t + 2 by omega), cp_ne (show u ≠ t + 3 by omega), cp_ne (show u ≠ t + 4 by omega), cp_ne (show u ≠ t + 5 by omega), cp_ne (show u ≠ t + 6 by omega)]
  exact Iff.rfl
theorem TR.copy {P : Pos} {u : Nat} (h : TR u P I) (hP : PD P) (hs : t + 7 ≤ u ∨ u + 7 ≤ t) : TR t P (cpT t u I) := by
  obtain ⟨h1, h2, h3, h4, h5, h6⟩ := h
  have e1 : ∀ j, j < 24 → cpT t u I (t + 1) j = I (u + 1) j := fun j hj => by rw [cpT_at hs]; simp [hj]
  have e2 : ∀ j, j < 24 → cpT t u I (t + 2) j = I (u + 2) j := fun j hj => by rw [cpT_at hs]; simp [hj]
  have e3 : ∀ j, j < 6 → cpT t u I (t + 3) j = I (u + 3) j := fun j hj => by rw [cpT_at hs]; simp [hj]
  have e4 : ∀ j, j < 6 → cpT t u I (t + 4) j = I (u + 4) j := fun j hj => by rw [cpT_at hs]; simp [hj]
  refine ⟨fun p hp => ?_, fun p hp c hc => ?_, fun c hc hn => ?_, fun j hj => ?_, fun j hj => ?_, ?_⟩
  · rw [e3 p hp, e4 p hp]
    exact ⟨ch_congr (fun a ha => e2 a ((hP.1 p hp).2 a (by simpa using ha))) (h1 p hp).1, (h1 p hp).2⟩
  · rw [e1 c ((hP.1 p hp).2 c hc)]; exact h2 p hp c hc
  · rw [e1 c hc, e2 c hc]; exact h3 c hc hn
  · rw [cpT_at hs]; simp [hj]; exact h4 j hj
  · rw [cpT_at hs]; simp [hj]; exact h5 j hj
  · rw [cpT_at hs]; simp; exact h6
theorem cpT_fr {u x : Nat} (hs : t + 7 ≤ u ∨ u + 7 ≤ t) (h : x < t ∨ t + 6 < x) : cpT t u I x = I x := by
  funext j
  rw [cpT_at hs, if_neg (fun q => by omega), if_neg (fun q => by omega), if_neg (fun q => by omega), if_neg (fun q => by omega), if_neg (fun q => by omega), if_neg (fun q => by omega), if_neg (fun q => by omega)]
/-! fill, clear -/
def filI (x a n : Nat) (v : Int32) (I : Nat → Nat → Int32) : Nat → Nat → Int32 := fun y j => if y = x ∧ a ≤ j ∧ j < n then v else I y j
theorem c132_l {x n : Nat} {v : Int32} {r : pm_Res} (hx : x < 560) (hsh : pm_sh x = (1, n)) (hn : n < 100000) : ∀ m a (I : Nat → Nat → Int32), a + m = n →
    (pm_R d 132 5 [some (.ref x), some (.int v), some (.int (nI a)), some (.int (nI n))] [] (Wm I k o) r ↔ r = (.inl none, Wm (filI x a n v I) k o)) := by
  intro m
  induction m with
  | zero =>
    intro a I ha
    obtain rfl : a = n := by omega
    have e : filI x a a v I = I := by funext y j; exact if_neg (fun q => by omega)
    rw [q132_5, e]
    simp only [q132_6, q132_7, q132_20, show (nI a < nI a) ↔ False from iff_false_intro (by rw [sm_lt (by omega) (by omega)]; omega), reduceIte]
  | succ m ih =>
    intro a I ha
    rw [q132_5]
    simp only [q132_6, q132_7, q132_10, q132_11, q132_12, q132_13, q132_14, q132_17, W_1, W_I, W_mk, W_tk, pm_rv, rf_0_0, rf_0_1, rf_0_2, rf_0_3, rf_0_4, rf_0_7, rf_0_8, rf_1_0, rf_1_2, rf_3_0, rf_3_1, rf_3_6, rf_3_7, rf_3_8, rf_9_0, rf_9_1, rf_10_0, rf_10_1, rf_10_6, rf_10_7, rf_10_8, rf_17_0, rf_17_1, rf_538_2, rf_538_6, rf_538_7, rf_538_9, rf_538_11, rf_538_12, rf_538_18, rf_538_19, rf_538_22, rf_538_23, rf_538_25, rf_538_27, rf_538_28, rf_538_30, rf_538_31, rf_538_32, rf_538_33, rf_538_34, rf_538_35, rf_538_36, ob_0, ob_1, ob_3, ob_9, ob_10, ob_17, ob_538, ar_2, ar_4, ar_5, ar_6, ar_7, ar_8, ar_11, ar_12, ar_13, ar_14, ar_15, ar_16, ar_116, ar_117, ar_539, ar_540, ar_541, ar_542, ar_543, ar_544, ar_545, ar_546, ar_547, ar_548, ar_549, ar_550, ar_551, ar_552, ar_553, ar_554, ar_555, ar_556, ar_557, ar_558, ex_eq, ex_ite, pm_bk_r, pm_bk_t, ol_nil, ol_one, true_and, and_true, false_and, and_false, reduceIte, Nat.reduceEqDiff, up_at, Nat.add_left_cancel_iff, W_arr, hsh, hx, show (nI a < nI n) ↔ True from iff_true_intro (by rw [sm_lt (by omega) (by omega)]; omega), sm_in (show a < 2147483648 by omega), show a < n by omega, sm_cl (show a < 2147483648 by omega), sm_s]
    rw [ih (a + 1) _ (by omega)]
    have e : filI x (a + 1) n v (pm_up I x a v) = filI x a n v I := by
      funext y j
      unfold filI
      by_cases hj : y = x ∧ j = a
      · rw [if_neg (fun q => by omega), if_pos ⟨hj.1, by omega, by omega⟩, hj.1, hj.2, up_eq]
      · rw [up_ne hj]
        by_cases hh : y = x ∧ a + 1 ≤ j ∧ j < n
        · rw [if_pos hh, if_pos ⟨hh.1, by omega, hh.2.2⟩]
        · rw [if_neg hh, if_neg (fun q => hh ⟨q.1, by omega, q.2.2⟩)]
    rw [e]
theorem c132 {x n : Nat} {v : Int32} (hx : x < 560) (hsh : pm_sh x = (1, n)) (hn : n < 100000) : pm_C (d + 1) 132 [.ref x, .int v] (Wm I k o) q ↔ q = (.inl none, Wm (filI x 0 n v I) k o) := by
  rw [n132]
  simp only [q132_0, q132_1, q132_2, q132_3, q132_4, W_1, W_I, W_mk, W_tk, pm_rv, rf_0_0, rf_0_1, rf_0_2, rf_0_3, rf_0_4, rf_0_7, rf_0_8, rf_1_0, rf_1_2, rf_3_0, rf_3_1, rf_3_6, rf_3_7, rf_3_8, rf_9_0, rf_9_1, rf_10_0, rf_10_1, rf_10_6, rf_10_7, rf_10_8, rf_17_0, rf_17_1, rf_538_2, rf_538_6, rf_538_7, rf_538_9, rf_538_11, rf_538_12, rf_538_18, rf_538_19, rf_538_22, rf_538_23, rf_538_25, rf_538_27, rf_538_28, rf_538_30, rf_538_31, rf_538_32, rf_538_33, rf_538_34, rf_538_35, rf_538_36, ob_0, ob_1, ob_3, ob_9, ob_10, ob_17, ob_538, ar_2, ar_4, ar_5, ar_6, ar_7, ar_8, ar_11, ar_12, ar_13, ar_14, ar_15, ar_16, ar_116, ar_117, ar_539, ar_540, ar_541, ar_542, ar_543, ar_544, ar_545, ar_546, ar_547, ar_548, ar_549, ar_550, ar_551, ar_552, ar_553, ar_554, ar_555, ar_556, ar_557, ar_558, ex_eq, ex_ite, pm_bk_r, pm_bk_t, ol_nil, ol_one, true_and, and_true, false_and, and_false, reduceIte, Nat.reduceEqDiff, up_at, Nat.add_left_cancel_iff, hsh, hx, show ¬ (1 = 0) from by decide, not_false_eq_true]
  rw [show (0 : Int32) = nI 0 from rfl, c132_l hx hsh hn n 0 I (by omega)]
def clrI (t : Nat) (I : Nat → Nat → Int32) : Nat → Nat → Int32 := pm_up (filI (t + 6) 0 2 0 (filI (t + 5) 0 4 0 (filI (t + 4) 0 6 0 (filI (t + 3) 0 6 (-1) (filI (t + 2) 0 24 (-1) (filI (t + 1) 0 24 (-1) I)))))) t 6 0
theorem c109 (ht : tb t) : pm_C (d + 2) 109 [.ref t] (Wm I k o) q ↔ q = (.inl none, Wm (clrI t I) k o) := by
  have hs1 := tb_sh t ht
  have hl1 := tb_lt ht
  rw [n109]
  simp only [q109_0, q109_1, q109_4, q109_5, q109_8, q109_9, q109_12, q109_13, q109_16, q109_17, q109_20, q109_21, q109_24, q109_25, q109_28, q109_29, q109_32, q109_33, q109_36, q109_37, q109_40, q109_41, q109_44, q109_45, q109_48, q109_49, q109_50, q109_53, W_1, W_I, W_mk, W_tk, pm_rv, rf_0_0, rf_0_1, rf_0_2, rf_0_3, rf_0_4, rf_0_7, rf_0_8, rf_1_0, rf_1_2, rf_3_0, rf_3_1, rf_3_6, rf_3_7, rf_3_8, rf_9_0, rf_9_1, rf_10_0, rf_10_1, rf_10_6, rf_10_7, rf_10_8, rf_17_0, rf_17_1, rf_538_2, rf_538_6, rf_538_7, rf_538_9, rf_538_11, rf_538_12, rf_538_18, rf_538_19, rf_538_22, rf_538_23, rf_538_25, rf_538_27, rf_538_28, rf_538_30, rf_538_31, rf_538_32, rf_538_33, rf_538_34, rf_538_35, rf_538_36, ob_0, ob_1, ob_3, ob_9, ob_10, ob_17, ob_538, ar_2, ar_4, ar_5, ar_6, ar_7, ar_8, ar_11, ar_12, ar_13, ar_14, ar_15, ar_16, ar_116, ar_117, ar_539, ar_540, ar_541, ar_542, ar_543, ar_544, ar_545, ar_546, ar_547, ar_548, ar_549, ar_550, ar_551, ar_552, ar_553, ar_554, ar_555, ar_556, ar_557, ar_558, ob_t ht, rt_0 ht, at_0 ht, rt_1 ht, at_1 ht, rt_2 ht, at_2 ht, rt_3 ht, at_3 ht, rt_4 ht, at_4 ht, rt_5 ht, at_5 ht, ex_eq, ex_ite, pm_bk_r, pm_bk_t, ol_nil, ol_one, true_and, and_true, false_and, and_false, reduceIte, Nat.reduceEqDiff, up_at, Nat.add_left_cancel_iff, c132 (show t + 1 < 560 by omega) hs1.2.1 (by omega), c132 (show t + 2 < 560 by omega) hs1.2.2.1 (by omega), c132 (show t + 3 < 560 by omega) hs1.2.2.2.1 (by omega), c132 (show t + 4 < 560 by omega) hs1.2.2.2.2.1 (by omega), c132 (show t + 5 < 560 by omega) hs1.2.2.2.2.2.1 (by omega), c132 (show t + 6 < 560 by omega) hs1.2.2.2.2.2.2 (by omega), clrI]
/-- nothing lies anywhere -/
def a_nil : Pos := (fun _ => [], fun _ => 0, fun _ => 0, 0)
theorem TR.clear : TR t a_nil (clrI t I) := by
  refine ⟨fun p hp => ⟨?_, ?_⟩, fun p hp c hc => (by cases hc), fun c hc hn => ⟨?_, ?_⟩, fun j hj => ?_, fun j hj => ?_, ?_⟩
  · show clrI t I (t + 3) p = -1
    simp [clrI, up_at, filI, hp]
  · show clrI t I (t + 4) p = 0
    simp [clrI, up_at, filI, hp]
  · simp [clrI, up_at, filI, hc]
  · simp [clrI, up_at, filI, hc]
  · show clrI t I (t + 5) j = 0
    simp [clrI, up_at, filI, hj]
  · show clrI t I (t + 6) j = 0
    simp [clrI, up_at, filI, hj]
  · show clrI t I t 6 = 0
    simp [clrI, up_at]
theorem clr_fr {x : Nat} (h : x < t ∨ t + 6 < x) : clrI t I x = I x := by
  funext j
  unfold clrI
  rw [up_ne (fun q => by omega)]
  unfold filI
  rw [if_neg (fun q => by omega), if_neg (fun q => by omega), if_neg (fun q => by omega), if_neg (fun q => by omega), if_neg (fun q => by omega), if_neg (fun q => by omega)]
end MAC
