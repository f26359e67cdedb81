/-! THE LAW'S HELPERS AND ITS CALLS -/
section HLQ
variable {d k : Nat} {o : Int64} {S' : AS} {r : Int32 ⊕ Nat} {I : Nat → Nat → Int32}
theorem h115 {x y : Int32} (h : COK S' r I k o (fun M q => pm_C (d + 69) 5 [.ref 0, .int x, .int y] M q)) (hr : (∃ v, r = .inl v) ∨ r = .inr 2) : HOK S' r (m_thr r) I k o (fun M q => pm_C (d + 70) 115 [.ref 0, .int x, .int y, .ref 559] M q) := by
  obtain ⟨J, g1, g2, g3⟩ := h
  have g3' : ∀ q, (pm_C (d + 69) 5 [.ref 0, .int x, .int y] (Wm I k o) q ↔ q = rfin r k o J) := g3
  refine ⟨J, g1, g2, fun q => ?_⟩
  show pm_C (d + 70) 115 _ _ q ↔ _
  rw [n115]
  rcases hr with ⟨v, rfl⟩ | rfl
  · simp (decide := true) only [q115_0, q115_1, q115_2, q115_3, q115_4, q115_5, q115_8, q115_9, q115_10, q115_15, q115_16, q115_17, q115_18, W_1, W_I, W_mk, W_tk, pm_rv, rf_0_0, rf_0_1, rf_0_2, rf_0_3, rf_0_4, rf_0_7, rf_0_8, rf_1_0, rf_1_2, rf_3_0, rf_3_1, rf_3_6, rf_3_7, rf_3_8, rf_9_0, rf_9_1, rf_10_0, rf_10_1, rf_10_6, rf_10_7, rf_10_8, rf_17_0, rf_17_1, rf_538_2, rf_538_6, rf_538_7, rf_538_9, rf_538_11, rf_538_12, rf_538_18, rf_538_19, rf_538_22, rf_538_23, rf_538_25, rf_538_27, rf_538_28, rf_538_30, rf_538_31, rf_538_32, rf_538_33, rf_538_34, rf_538_35, rf_538_36, ob_0, ob_1, ob_3, ob_9, ob_10, ob_17, ob_538, ar_2, ar_4, ar_5, ar_6, ar_7, ar_8, ar_11, ar_12, ar_13, ar_14, ar_15, ar_16, ar_116, ar_117, ar_539, ar_540, ar_541, ar_542, ar_543, ar_544, ar_545, ar_546, ar_547, ar_548, ar_549, ar_550, ar_551, ar_552, ar_553, ar_554, ar_555, ar_556, ar_557, ar_558, ex_eq, ex_ite, pm_bk_r, pm_bk_t, ol_nil, ol_one, true_and, and_true, false_and, and_false, reduceIte, Nat.reduceEqDiff, up_at, Nat.add_left_cancel_iff, g3', rfin, ar_559, vp_0, kc0, W_sl, m_thr, kk, oo]
  · simp (decide := true) only [q115_0, q115_1, q115_2, q115_3, q115_4, q115_5, q115_8, q115_9, q115_10, q115_15, q115_16, q115_17, q115_18, W_1, W_I, W_mk, W_tk, pm_rv, rf_0_0, rf_0_1, rf_0_2, rf_0_3, rf_0_4, rf_0_7, rf_0_8, rf_1_0, rf_1_2, rf_3_0, rf_3_1, rf_3_6, rf_3_7, rf_3_8, rf_9_0, rf_9_1, rf_10_0, rf_10_1, rf_10_6, rf_10_7, rf_10_8, rf_17_0, rf_17_1, rf_538_2, rf_538_6, rf_538_7, rf_538_9, rf_538_11, rf_538_12, rf_538_18, rf_538_19, rf_538_22, rf_538_23, rf_538_25, rf_538_27, rf_538_28, rf_538_30, rf_538_31, rf_538_32, rf_538_33, rf_538_34, rf_538_35, rf_538_36, ob_0, ob_1, ob_3, ob_9, ob_10, ob_17, ob_538, ar_2, ar_4, ar_5, ar_6, ar_7, ar_8, ar_11, ar_12, ar_13, ar_14, ar_15, ar_16, ar_116, ar_117, ar_539, ar_540, ar_541, ar_542, ar_543, ar_544, ar_545, ar_546, ar_547, ar_548, ar_549, ar_550, ar_551, ar_552, ar_553, ar_554, ar_555, ar_556, ar_557, ar_558, ex_eq, ex_ite, pm_bk_r, pm_bk_t, ol_nil, ol_one, true_and, and_true, false_and, and_false, reduceIte, Nat.reduceEqDiff, up_at, Nat.add_left_cancel_iff, g3', rfin, hd5.1, ls4, m_thr, kk, oo]
theorem h116 {x y : Int32} (h : COK S' r I k o (fun M q => pm_C (d + 69) 6 [.ref 0, .int x, .int y] M q)) (hr : (∃ v, r = .inl v) ∨ r = .inr 1 ∨ r = .inr 0) : HOK S' r (t_deal r) I k o (fun M q => pm_C (d + 70) 116 [.ref 0, .int x, .int y, .ref 559] M q) := by
  obtain ⟨J, g1, g2, g3⟩ := h
  have g3' : ∀ q, (pm_C (d + 69) 6 [.ref 0, .int x, .int y] (Wm I k o) q ↔ q = rfin r k o J) := g3
  refine ⟨J, g1, g2, fun q => ?_⟩
  show pm_C (d + 70) 116 _ _ q ↔ _
  rw [n116]
  rcases hr with ⟨v, rfl⟩ | rfl | rfl
  · simp (decide := true) only [q116_0, q116_1, q116_2, q116_3, q116_4, q116_5, q116_8, q116_9, q116_10, q116_15, q116_16, q116_19, q116_20, q116_21, q116_22, W_1, W_I, W_mk, W_tk, pm_rv, rf_0_0, rf_0_1, rf_0_2, rf_0_3, rf_0_4, rf_0_7, rf_0_8, rf_1_0, rf_1_2, rf_3_0, rf_3_1, rf_3_6, rf_3_7, rf_3_8, rf_9_0, rf_9_1, rf_10_0, rf_10_1, rf_10_6, rf_10_7, rf_10_8, rf_17_0, rf_17_1, rf_538_2, rf_538_6, rf_538_7, rf_538_9, rf_538_11, rf_538_12, rf_538_18, rf_538_19, rf_538_22, rf_538_23, rf_538_25, rf_538_27, rf_538_28, rf_538_30, rf_538_31, rf_538_32, rf_538_33, rf_538_34, rf_538_35, rf_538_36, ob_0, ob_1, ob_3, ob_9, ob_10, ob_17, ob_538, ar_2, ar_4, ar_5, ar_6, ar_7, ar_8, ar_11, ar_12, ar_13, ar_14, ar_15, ar_16, ar_116, ar_117, ar_539, ar_540, ar_541, ar_542, ar_543, ar_544, ar_545, ar_546, ar_547, ar_548, ar_549, ar_550, ar_551, ar_552, ar_553, ar_554, ar_555, ar_556, ar_557, ar_558, ex_eq, ex_ite, pm_bk_r, pm_bk_t, ol_nil, ol_one, true_and, and_true, false_and, and_false, reduceIte, Nat.reduceEqDiff, up_at, Nat.add_left_cancel_iff, g3', rfin, ar_559, vp_0, kc0, W_sl, t_deal, kk, oo]
  · simp (decide := true) only [q116_0, q116_1, q116_2, q116_3, q116_4, q116_5, q116_8, q116_9, q116_10, q116_15, q116_16, q116_19, q116_20, q116_21, q116_22, W_1, W_I, W_mk, W_tk, pm_rv, rf_0_0, rf_0_1, rf_0_2, rf_0_3, rf_0_4, rf_0_7, rf_0_8, rf_1_0, rf_1_2, rf_3_0, rf_3_1, rf_3_6, rf_3_7, rf_3_8, rf_9_0, rf_9_1, rf_10_0, rf_10_1, rf_10_6, rf_10_7, rf_10_8, rf_17_0, rf_17_1, rf_538_2, rf_538_6, rf_538_7, rf_538_9, rf_538_11, rf_538_12, rf_538_18, rf_538_19, rf_538_22, rf_538_23, rf_538_25, rf_538_27, rf_538_28, rf_538_30, rf_538_31, rf_538_32, rf_538_33, rf_538_34, rf_538_35, rf_538_36, ob_0, ob_1, ob_3, ob_9, ob_10, ob_17, ob_538, ar_2, ar_4, ar_5, ar_6, ar_7, ar_8, ar_11, ar_12, ar_13, ar_14, ar_15, ar_16, ar_116, ar_117, ar_539, ar_540, ar_541, ar_542, ar_543, ar_544, ar_545, ar_546, ar_547, ar_548, ar_549, ar_550, ar_551, ar_552, ar_553, ar_554, ar_555, ar_556, ar_557, ar_558, ex_eq, ex_ite, pm_bk_r, pm_bk_t, ol_nil, ol_one, true_and, and_true, false_and, and_false, reduceIte, Nat.reduceEqDiff, up_at, Nat.add_left_cancel_iff, g3', rfin, hd6.1, ls4, t_deal, kk, oo]
  · simp (decide := true) only [q116_0, q116_1, q116_2, q116_3, q116_4, q116_5, q116_8, q116_9, q116_10, q116_15, q116_16, q116_19, q116_20, q116_21, q116_22, W_1, W_I, W_mk, W_tk, pm_rv, rf_0_0, rf_0_1, rf_0_2, rf_0_3, rf_0_4, rf_0_7, rf_0_8, rf_1_0, rf_1_2, rf_3_0, rf_3_1, rf_3_6, rf_3_7, rf_3_8, rf_9_0, rf_9_1, rf_10_0, rf_10_1, rf_10_6, rf_10_7, rf_10_8, rf_17_0, rf_17_1, rf_538_2, rf_538_6, rf_538_7, rf_538_9, rf_538_11, rf_538_12, rf_538_18, rf_538_19, rf_538_22, rf_538_23, rf_538_25, rf_538_27, rf_538_28, rf_538_30, rf_538_31, rf_538_32, rf_538_33, rf_538_34, rf_538_35, rf_538_36, ob_0, ob_1, ob_3, ob_9, ob_10, ob_17, ob_538, ar_2, ar_4, ar_5, ar_6, ar_7, ar_8, ar_11, ar_12, ar_13, ar_14, ar_15, ar_16, ar_116, ar_117, ar_539, ar_540, ar_541, ar_542, ar_543, ar_544, ar_545, ar_546, ar_547, ar_548, ar_549, ar_550, ar_551, ar_552, ar_553, ar_554, ar_555, ar_556, ar_557, ar_558, ex_eq, ex_ite, pm_bk_r, pm_bk_t, ol_nil, ol_one, true_and, and_true, false_and, and_false, reduceIte, Nat.reduceEqDiff, up_at, Nat.add_left_cancel_iff, g3', rfin, hd6.2, ls4, t_deal, kk, oo]
theorem h117 {x y : Int32} (h : COK S' r I k o (fun M q => pm_C (d + 69) 10 [.ref 0, .int x, .int y] M q)) (hr : (∃ v, r = .inl v) ∨ r = .inr 2) : HOK S' r (m_thr r) I k o (fun M q => pm_C (d + 70) 117 [.ref 0, .int x, .int y, .ref 559] M q) := by
  obtain ⟨J, g1, g2, g3⟩ := h
  have g3' : ∀ q, (pm_C (d + 69) 10 [.ref 0, .int x, .int y] (Wm I k o) q ↔ q = rfin r k o J) := g3
  refine ⟨J, g1, g2, fun q => ?_⟩
  show pm_C (d + 70) 117 _ _ q ↔ _
  rw [n117]
  rcases hr with ⟨v, rfl⟩ | rfl
  · simp (decide := true) only [q117_0, q117_1, q117_2, q117_3, q117_4, q117_5, q117_8, q117_9, q117_10, q117_15, q117_16, q117_17, q117_18, W_1, W_I, W_mk, W_tk, pm_rv, rf_0_0, rf_0_1, rf_0_2, rf_0_3, rf_0_4, rf_0_7, rf_0_8, rf_1_0, rf_1_2, rf_3_0, rf_3_1, rf_3_6, rf_3_7, rf_3_8, rf_9_0, rf_9_1, rf_10_0, rf_10_1, rf_10_6, rf_10_7, rf_10_8, rf_17_0, rf_17_1, rf_538_2, rf_538_6, rf_538_7, rf_538_9, rf_538_11, rf_538_12, rf_538_18, rf_538_19, rf_538_22, rf_538_23, rf_538_25, rf_538_27, rf_538_28, rf_538_30, rf_538_31, rf_538_32, rf_538_33, rf_538_34, rf_538_35, rf_538_36, ob_0, ob_1, ob_3, ob_9, ob_10, ob_17, ob_538, ar_2, ar_4, ar_5, ar_6, ar_7, ar_8, ar_11, ar_12, ar_13, ar_14, ar_15, ar_16, ar_116, ar_117, ar_539, ar_540, ar_541, ar_542, ar_543, ar_544, ar_545, ar_546, ar_547, ar_548, ar_549, ar_550, ar_551, ar_552, ar_553, ar_554, ar_555, ar_556, ar_557, ar_558, ex_eq, ex_ite, pm_bk_r, pm_bk_t, ol_nil, ol_one, true_and, and_true, false_and, and_false, reduceIte, Nat.reduceEqDiff, up_at, Nat.add_left_cancel_iff, g3', rfin, ar_559, vp_0, kc0, W_sl, m_thr, kk, oo]
  · simp (decide := true) only [q117_0, q117_1, q117_2, q117_3, q117_4, q117_5, q117_8, q117_9, q117_10, q117_15, q117_16, q117_17, q117_18, W_1, W_I, W_mk, W_tk, pm_rv, rf_0_0, rf_0_1, rf_0_2, rf_0_3, rf_0_4, rf_0_7, rf_0_8, rf_1_0, rf_1_2, rf_3_0, rf_3_1, rf_3_6, rf_3_7, rf_3_8, rf_9_0, rf_9_1, rf_10_0, rf_10_1, rf_10_6, rf_10_7, rf_10_8, rf_17_0, rf_17_1, rf_538_2, rf_538_6, rf_538_7, rf_538_9, rf_538_11, rf_538_12, rf_538_18, rf_538_19, rf_538_22, rf_538_23, rf_538_25, rf_538_27, rf_538_28, rf_538_30, rf_538_31, rf_538_32, rf_538_33, rf_538_34, rf_538_35, rf_538_36, ob_0, ob_1, ob_3, ob_9, ob_10, ob_17, ob_538, ar_2, ar_4, ar_5, ar_6, ar_7, ar_8, ar_11, ar_12, ar_13, ar_14, ar_15, ar_16, ar_116, ar_117, ar_539, ar_540, ar_541, ar_542, ar_543, ar_544, ar_545, ar_546, ar_547, ar_548, ar_549, ar_550, ar_551, ar_552, ar_553, ar_554, ar_555, ar_556, ar_557, ar_558, ex_eq, ex_ite, pm_bk_r, pm_bk_t, ol_nil, ol_one, true_and, and_true, false_and, and_false, reduceIte, Nat.reduceEqDiff, up_at, Nat.add_left_cancel_iff, g3', rfin, hd5.2, ls4, m_thr, kk, oo]
theorem h118 {x : Int32} (h : COK S' r I k o (fun M q => pm_C (d + 69) 14 [.ref 0, .int x] M q)) (hr : (∃ v, r = .inl v) ∨ r = .inr 2 ∨ r = .inr 1) : HOK S' r (t_act r) I k o (fun M q => pm_C (d + 70) 118 [.ref 0, .int x, .ref 559] M q) := by
  obtain ⟨J, g1, g2, g3⟩ := h
  have g3' : ∀ q, (pm_C (d + 69) 14 [.ref 0, .int x] (Wm I k o) q ↔ q = rfin r k o J) := g3
  refine ⟨J, g1, g2, fun q => ?_⟩
  show pm_C (d + 70) 118 _ _ q ↔ _
  rw [n118]
  rcases hr with ⟨v, rfl⟩ | rfl | rfl
  · simp (decide := true) only [q118_0, q118_1, q118_2, q118_3, q118_4, q118_7, q118_8, q118_9, q118_13, q118_14, q118_16, q118_17, q118_18, q118_19, W_1, W_I, W_mk, W_tk, pm_rv, rf_0_0, rf_0_1, rf_0_2, rf_0_3, rf_0_4, rf_0_7, rf_0_8, rf_1_0, rf_1_2, rf_3_0, rf_3_1, rf_3_6, rf_3_7, rf_3_8, rf_9_0, rf_9_1, rf_10_0, rf_10_1, rf_10_6, rf_10_7, rf_10_8, rf_17_0, rf_17_1, rf_538_2, rf_538_6, rf_538_7, rf_538_9, rf_538_11, rf_538_12, rf_538_18, rf_538_19, rf_538_22, rf_538_23, rf_538_25, rf_538_27, rf_538_28, rf_538_30, rf_538_31, rf_538_32, rf_538_33, rf_538_34, rf_538_35, rf_538_36, ob_0, ob_1, ob_3, ob_9, ob_10, ob_17, ob_538, ar_2, ar_4, ar_5, ar_6, ar_7, ar_8, ar_11, ar_12, ar_13, ar_14, ar_15, ar_16, ar_116, ar_117, ar_539, ar_540, ar_541, ar_542, ar_543, ar_544, ar_545, ar_546, ar_547, ar_548, ar_549, ar_550, ar_551, ar_552, ar_553, ar_554, ar_555, ar_556, ar_557, ar_558, ex_eq, ex_ite, pm_bk_r, pm_bk_t, ol_nil, ol_one, true_and, and_true, false_and, and_false, reduceIte, Nat.reduceEqDiff, up_at, Nat.add_left_cancel_iff, g3', rfin, ar_559, vp_0, kc0, W_sl, t_act, kk, oo]
  · simp (decide := true) only [q118_0, q118_1, q118_2, q118_3, q118_4, q118_7, q118_8, q118_9, q118_13, q118_14, q118_16, q118_17, q118_18, q118_19, W_1, W_I, W_mk, W_tk, pm_rv, rf_0_0, rf_0_1, rf_0_2, rf_0_3, rf_0_4, rf_0_7, rf_0_8, rf_1_0, rf_1_2, rf_3_0, rf_3_1, rf_3_6, rf_3_7, rf_3_8, rf_9_0, rf_9_1, rf_10_0, rf_10_1, rf_10_6, rf_10_7, rf_10_8, rf_17_0, rf_17_1, rf_538_2, rf_538_6, rf_538_7, rf_538_9, rf_538_11, rf_538_12, rf_538_18, rf_538_19, rf_538_22, rf_538_23, rf_538_25, rf_538_27, rf_538_28, rf_538_30, rf_538_31, rf_538_32, rf_538_33, rf_538_34, rf_538_35, rf_538_36, ob_0, ob_1, ob_3, ob_9, ob_10, ob_17, ob_538, ar_2, ar_4, ar_5, ar_6, ar_7, ar_8, ar_11, ar_12, ar_13, ar_14, ar_15, ar_16, ar_116, ar_117, ar_539, ar_540, ar_541, ar_542, ar_543, ar_544, ar_545, ar_546, ar_547, ar_548, ar_549, ar_550, ar_551, ar_552, ar_553, ar_554, ar_555, ar_556, ar_557, ar_558, ex_eq, ex_ite, pm_bk_r, pm_bk_t, ol_nil, ol_one, true_and, and_true, false_and, and_false, reduceIte, Nat.reduceEqDiff, up_at, Nat.add_left_cancel_iff, g3', rfin, hd7.1, ls3, t_act, kk, oo]
  · simp (decide := true) only [q118_0, q118_1, q118_2, q118_3, q118_4, q118_7, q118_8, q118_9, q118_13, q118_14, q118_16, q118_17, q118_18, q118_19, W_1, W_I, W_mk, W_tk, pm_rv, rf_0_0, rf_0_1, rf_0_2, rf_0_3, rf_0_4, rf_0_7, rf_0_8, rf_1_0, rf_1_2, rf_3_0, rf_3_1, rf_3_6, rf_3_7, rf_3_8, rf_9_0, rf_9_1, rf_10_0, rf_10_1, rf_10_6, rf_10_7, rf_10_8, rf_17_0, rf_17_1, rf_538_2, rf_538_6, rf_538_7, rf_538_9, rf_538_11, rf_538_12, rf_538_18, rf_538_19, rf_538_22, rf_538_23, rf_538_25, rf_538_27, rf_538_28, rf_538_30, rf_538_31, rf_538_32, rf_538_33, rf_538_34, rf_538_35, rf_538_36, ob_0, ob_1, ob_3, ob_9, ob_10, ob_17, ob_538, ar_2, ar_4, ar_5, ar_6, ar_7, ar_8, ar_11, ar_12, ar_13, ar_14, ar_15, ar_16, ar_116, ar_117, ar_539, ar_540, ar_541, ar_542, ar_543, ar_544, ar_545, ar_546, ar_547, ar_548, ar_549, ar_550, ar_551, ar_552, ar_553, ar_554, ar_555, ar_556, ar_557, ar_558, ex_eq, ex_ite, pm_bk_r, pm_bk_t, ol_nil, ol_one, true_and, and_true, false_and, and_false, reduceIte, Nat.reduceEqDiff, up_at, Nat.add_left_cancel_iff, g3', rfin, hd7.2.1, ls3, t_act, kk, oo]
theorem h119 {x : Int32} (h : COK S' r I k o (fun M q => pm_C (d + 69) 18 [.ref 0, .int x] M q)) (hr : (∃ v, r = .inl v) ∨ r = .inr 2) : HOK S' r (m_thr r) I k o (fun M q => pm_C (d + 70) 119 [.ref 0, .int x, .ref 559] M q) := by
  obtain ⟨J, g1, g2, g3⟩ := h
  have g3' : ∀ q, (pm_C (d + 69) 18 [.ref 0, .int x] (Wm I k o) q ↔ q = rfin r k o J) := g3
  refine ⟨J, g1, g2, fun q => ?_⟩
  show pm_C (d + 70) 119 _ _ q ↔ _
  rw [n119]
  rcases hr with ⟨v, rfl⟩ | rfl
  · simp (decide := true) only [q119_0, q119_1, q119_2, q119_3, q119_4, q119_7, q119_8, q119_9, q119_13, q119_14, q119_15, q119_16, W_1, W_I, W_mk, W_tk, pm_rv, rf_0_0, rf_0_1, rf_0_2, rf_0_3, rf_0_4, rf_0_7, rf_0_8, rf_1_0, rf_1_2, rf_3_0, rf_3_1, rf_3_6, rf_3_7, rf_3_8, rf_9_0, rf_9_1, rf_10_0, rf_10_1, rf_10_6, rf_10_7, rf_10_8, rf_17_0, rf_17_1, rf_538_2, rf_538_6, rf_538_7, rf_538_9, rf_538_11, rf_538_12, rf_538_18, rf_538_19, rf_538_22, rf_538_23, rf_538_25, rf_538_27, rf_538_28, rf_538_30, rf_538_31, rf_538_32, rf_538_33, rf_538_34, rf_538_35, rf_538_36, ob_0, ob_1, ob_3, ob_9, ob_10, ob_17, ob_538, ar_2, ar_4, ar_5, ar_6, ar_7, ar_8, ar_11, ar_12, ar_13, ar_14, ar_15, ar_16, ar_116, ar_117, ar_539, ar_540, ar_541, ar_542, ar_543, ar_544, ar_545, ar_546, ar_547, ar_548, ar_549, ar_550, ar_551, ar_552, ar_553, ar_554, ar_555, ar_556, ar_557, ar_558, ex_eq, ex_ite, pm_bk_r, pm_bk_t, ol_nil, ol_one, true_and, and_true, false_and, and_false, reduceIte, Nat.reduceEqDiff, up_at, Nat.add_left_cancel_iff, g3', rfin, ar_559, vp_0, kc0, W_sl, m_thr, kk, oo]
  · simp (decide := true) only [q119_0, q119_1, q119_2, q119_3, q119_4, q119_7, q119_8, q119_9, q119_13, q119_14, q119_15, q119_16, W_1, W_I, W_mk, W_tk, pm_rv, rf_0_0, rf_0_1, rf_0_2, rf_0_3, rf_0_4, rf_0_7, rf_0_8, rf_1_0, rf_1_2, rf_3_0, rf_3_1, rf_3_6, rf_3_7, rf_3_8, rf_9_0, rf_9_1, rf_10_0, rf_10_1, rf_10_6, rf_10_7, rf_10_8, rf_17_0, rf_17_1, rf_538_2, rf_538_6, rf_538_7, rf_538_9, rf_538_11, rf_538_12, rf_538_18, rf_538_19, rf_538_22, rf_538_23, rf_538_25, rf_538_27, rf_538_28, rf_538_30, rf_538_31, rf_538_32, rf_538_33, rf_538_34, rf_538_35, rf_538_36, ob_0, ob_1, ob_3, ob_9, ob_10, ob_17, ob_538, ar_2, ar_4, ar_5, ar_6, ar_7, ar_8, ar_11, ar_12, ar_13, ar_14, ar_15, ar_16, ar_116, ar_117, ar_539, ar_540, ar_541, ar_542, ar_543, ar_544, ar_545, ar_546, ar_547, ar_548, ar_549, ar_550, ar_551, ar_552, ar_553, ar_554, ar_555, ar_556, ar_557, ar_558, ex_eq, ex_ite, pm_bk_r, pm_bk_t, ol_nil, ol_one, true_and, and_true, false_and, and_false, reduceIte, Nat.reduceEqDiff, up_at, Nat.add_left_cancel_iff, g3', rfin, hd7.2.2, ls3, m_thr, kk, oo]
theorem h120 {x : Int32} (h : COK S' r I k o (fun M q => pm_C (d + 69) 20 [.ref 0, .int x] M q)) (hr : (∃ v, r = .inl v) ∨ r = .inr 1 ∨ r = .inr 0 ∨ r = .inr 3) : HOK S' r (t_solve r) I k o (fun M q => pm_C (d + 70) 120 [.ref 0, .int x, .ref 559] M q) := by
  obtain ⟨J, g1, g2, g3⟩ := h
  have g3' : ∀ q, (pm_C (d + 69) 20 [.ref 0, .int x] (Wm I k o) q ↔ q = rfin r k o J) := g3
  refine ⟨J, g1, g2, fun q => ?_⟩
  show pm_C (d + 70) 120 _ _ q ↔ _
  rw [n120]
  rcases hr with ⟨v, rfl⟩ | rfl | rfl | rfl
  · simp (decide := true) only [q120_0, q120_1, q120_2, q120_3, q120_4, q120_7, q120_8, q120_9, q120_13, q120_14, q120_16, q120_17, q120_19, q120_20, q120_21, q120_22, W_1, W_I, W_mk, W_tk, pm_rv, rf_0_0, rf_0_1, rf_0_2, rf_0_3, rf_0_4, rf_0_7, rf_0_8, rf_1_0, rf_1_2, rf_3_0, rf_3_1, rf_3_6, rf_3_7, rf_3_8, rf_9_0, rf_9_1, rf_10_0, rf_10_1, rf_10_6, rf_10_7, rf_10_8, rf_17_0, rf_17_1, rf_538_2, rf_538_6, rf_538_7, rf_538_9, rf_538_11, rf_538_12, rf_538_18, rf_538_19, rf_538_22, rf_538_23, rf_538_25, rf_538_27, rf_538_28, rf_538_30, rf_538_31, rf_538_32, rf_538_33, rf_538_34, rf_538_35, rf_538_36, ob_0, ob_1, ob_3, ob_9, ob_10, ob_17, ob_538, ar_2, ar_4, ar_5, ar_6, ar_7, ar_8, ar_11, ar_12, ar_13, ar_14, ar_15, ar_16, ar_116, ar_117, ar_539, ar_540, ar_541, ar_542, ar_543, ar_544, ar_545, ar_546, ar_547, ar_548, ar_549, ar_550, ar_551, ar_552, ar_553, ar_554, ar_555, ar_556, ar_557, ar_558, ex_eq, ex_ite, pm_bk_r, pm_bk_t, ol_nil, ol_one, true_and, and_true, false_and, and_false, reduceIte, Nat.reduceEqDiff, up_at, Nat.add_left_cancel_iff, g3', rfin, ar_559, vp_0, kc0, W_sl, t_solve, kk, oo]
  · simp (decide := true) only [q120_0, q120_1, q120_2, q120_3, q120_4, q120_7, q120_8, q120_9, q120_13, q120_14, q120_16, q120_17, q120_19, q120_20, q120_21, q120_22, W_1, W_I, W_mk, W_tk, pm_rv, rf_0_0, rf_0_1, rf_0_2, rf_0_3, rf_0_4, rf_0_7, rf_0_8, rf_1_0, rf_1_2, rf_3_0, rf_3_1, rf_3_6, rf_3_7, rf_3_8, rf_9_0, rf_9_1, rf_10_0, rf_10_1, rf_10_6, rf_10_7, rf_10_8, rf_17_0, rf_17_1, rf_538_2, rf_538_6, rf_538_7, rf_538_9, rf_538_11, rf_538_12, rf_538_18, rf_538_19, rf_538_22, rf_538_23, rf_538_25, rf_538_27, rf_538_28, rf_538_30, rf_538_31, rf_538_32, rf_538_33, rf_538_34, rf_538_35, rf_538_36, ob_0, ob_1, ob_3, ob_9, ob_10, ob_17, ob_538, ar_2, ar_4, ar_5, ar_6, ar_7, ar_8, ar_11, ar_12, ar_13, ar_14, ar_15, ar_16, ar_116, ar_117, ar_539, ar_540, ar_541, ar_542, ar_543, ar_544, ar_545, ar_546, ar_547, ar_548, ar_549, ar_550, ar_551, ar_552, ar_553, ar_554, ar_555, ar_556, ar_557, ar_558, ex_eq, ex_ite, pm_bk_r, pm_bk_t, ol_nil, ol_one, true_and, and_true, false_and, and_false, reduceIte, Nat.reduceEqDiff, up_at, Nat.add_left_cancel_iff, g3', rfin, hd8.1, ls3, t_solve, kk, oo]
  · simp (decide := true) only [q120_0, q120_1, q120_2, q120_3, q120_4, q120_7, q120_8, q120_9, q120_13, q120_14, q120_16, q120_17, q120_19, q120_20, q120_21, q120_22, W_1, W_I, W_mk, W_tk, pm_rv, rf_0_0, rf_0_1, rf_0_2, rf_0_3, rf_0_4, rf_0_7, rf_0_8, rf_1_0, rf_1_2, rf_3_0, rf_3_1, rf_3_6, rf_3_7, rf_3_8, rf_9_0, rf_9_1, rf_10_0, rf_10_1, rf_10_6, rf_10_7, rf_10_8, rf_17_0, rf_17_1, rf_538_2, rf_538_6, rf_538_7, rf_538_9, rf_538_11, rf_538_12, rf_538_18, rf_538_19, rf_538_22, rf_538_23, rf_538_25, rf_538_27, rf_538_28, rf_538_30, rf_538_31, rf_538_32, rf_538_33, rf_538_34, rf_538_35, rf_538_36, ob_0, ob_1, ob_3, ob_9, ob_10, ob_17, ob_538, ar_2, ar_4, ar_5, ar_6, ar_7, ar_8, ar_11, ar_12, ar_13, ar_14, ar_15, ar_16, ar_116, ar_117, ar_539, ar_540, ar_541, ar_542, ar_543, ar_544, ar_545, ar_546, ar_547, ar_548, ar_549, ar_550, ar_551, ar_552, ar_553, ar_554, ar_555, ar_556, ar_557, ar_558, ex_eq, ex_ite, pm_bk_r, pm_bk_t, ol_nil, ol_one, true_and, and_true, false_and, and_false, reduceIte, Nat.reduceEqDiff, up_at, Nat.add_left_cancel_iff, g3', rfin, hd8.2.1, ls3, t_solve, kk, oo]
  · simp (decide := true) only [q120_0, q120_1, q120_2, q120_3, q120_4, q120_7, q120_8, q120_9, q120_13, q120_14, q120_16, q120_17, q120_19, q120_20, q120_21, q120_22, W_1, W_I, W_mk, W_tk, pm_rv, rf_0_0, rf_0_1, rf_0_2, rf_0_3, rf_0_4, rf_0_7, rf_0_8, rf_1_0, rf_1_2, rf_3_0, rf_3_1, rf_3_6, rf_3_7, rf_3_8, rf_9_0, rf_9_1, rf_10_0, rf_10_1, rf_10_6, rf_10_7, rf_10_8, rf_17_0, rf_17_1, rf_538_2, rf_538_6, rf_538_7, rf_538_9, rf_538_11, rf_538_12, rf_538_18, rf_538_19, rf_538_22, rf_538_23, rf_538_25, rf_538_27, rf_538_28, rf_538_30, rf_538_31, rf_538_32, rf_538_33, rf_538_34, rf_538_35, rf_538_36, ob_0, ob_1, ob_3, ob_9, ob_10, ob_17, ob_538, ar_2, ar_4, ar_5, ar_6, ar_7, ar_8, ar_11, ar_12, ar_13, ar_14, ar_15, ar_16, ar_116, ar_117, ar_539, ar_540, ar_541, ar_542, ar_543, ar_544, ar_545, ar_546, ar_547, ar_548, ar_549, ar_550, ar_551, ar_552, ar_553, ar_554, ar_555, ar_556, ar_557, ar_558, ex_eq, ex_ite, pm_bk_r, pm_bk_t, ol_nil, ol_one, true_and, and_true, false_and, and_false, reduceIte, Nat.reduceEqDiff, up_at, Nat.add_left_cancel_iff, g3', rfin, hd8.2.2, ls3, t_solve, kk, oo]
end HLQ
theorem r_comp {S : AS} : (∃ v, (o_comp S).2 = .inl v) ∨ (o_comp S).2 = .inr 0 ∨ (o_comp S).2 = .inr 3 := by
  unfold o_comp
  cases e_game S.1 with
  | none => exact Or.inr (Or.inl rfl)
  | some G =>
    simp only []
    by_cases hb : 160 < G.1.length
    · rw [if_pos hb]; exact Or.inr (Or.inr rfl)
    · rw [if_neg hb]; exact Or.inl ⟨_, rfl⟩
theorem r_code {G : Option Gm} {x : Int32} {a : Bool} : (∃ v, o_code G x a = .inl v) ∨ o_code G x a = .inr 2 := by
  unfold o_code
  cases G with
  | none => exact Or.inr rfl
  | some G =>
    simp only []
    split
    · exact Or.inl ⟨_, rfl⟩
    · exact Or.inr rfl
theorem r_deal {S : AS} {x y : Int32} : (∃ v, (o_deal S x y).2 = .inl v) ∨ (o_deal S x y).2 = .inr 1 ∨ (o_deal S x y).2 = .inr 0 := by
  unfold o_deal
  cases S.2.1 with
  | none => exact Or.inr (Or.inl rfl)
  | some G =>
    simp only []
    by_cases hb : y < 0
    · rw [if_pos hb]; exact Or.inr (Or.inr rfl)
    · rw [if_neg hb]; exact Or.inl ⟨_, rfl⟩
theorem r_move {S : AS} {x : Int32} {a : Bool} : (∃ v, o_move S x a = .inl v) ∨ o_move S x a = .inr 2 := by
  unfold o_move
  cases o_in x (o_mv S) with
  | none => exact Or.inr rfl
  | some m => exact Or.inl ⟨_, rfl⟩
theorem r_act {S : AS} {x : Int32} : (∃ v, (o_act S x).2 = .inl v) ∨ (o_act S x).2 = .inr 2 ∨ (o_act S x).2 = .inr 1 := by
  unfold o_act
  cases o_in x (o_mv S) with
  | none => exact Or.inr (Or.inl rfl)
  | some m =>
    cases S.2.1 with
    | none => exact Or.inr (Or.inl rfl)
    | some G =>
      cases S.2.2.1 with
      | none => exact Or.inr (Or.inl rfl)
      | some P =>
        simp only []
        by_cases hb : 60 ≤ S.2.2.2.1.length
        · rw [if_pos hb]; exact Or.inr (Or.inr rfl)
        · rw [if_neg hb]; exact Or.inl ⟨_, rfl⟩
theorem r_cnt {S : AS} {x : Int32} : (∃ v, o_cnt S x = .inl v) ∨ o_cnt S x = .inr 2 := by
  unfold o_cnt
  split
  · exact Or.inl ⟨_, rfl⟩
  · exact Or.inr rfl
theorem r_solve {S : AS} {x : Int32} : (∃ v, (o_solve S x).2 = .inl v) ∨ (o_solve S x).2 = .inr 1 ∨ (o_solve S x).2 = .inr 0 ∨ (o_solve S x).2 = .inr 3 := by
  unfold o_solve
  cases S.2.1 with
  | none => exact Or.inr (Or.inl rfl)
  | some G =>
    cases S.2.2.1 with
    | none => exact Or.inr (Or.inl rfl)
    | some P =>
      simp only []
      by_cases hb : x < 1 ∨ 2000 < x
      · rw [if_pos hb]; exact Or.inr (Or.inr (Or.inl rfl))
      · rw [if_neg hb]
        by_cases hs : t_ok G 10 P = true ∧ t_n G 10 P < x.toNatClampNeg
        · rw [if_pos hs]; exact Or.inl ⟨_, rfl⟩
        · rw [if_neg hs]; exact Or.inr (Or.inr (Or.inr rfl))
/-- what holds between the law's calls -/
def LI (xs : Nat → Int32) (L : Nat) (S : AS) (I : Nat → Nat → Int32) : Prop := AOK S ∧ CI S I ∧ MI S I ∧ (∀ j, I 20000 j = xs j) ∧ I 20001 0 = nI L
def SX (xs : Nat → Int32) (L : Nat) (I : Nat → Nat → Int32) : Prop := (∀ j, I 20000 j = xs j) ∧ I 20001 0 = nI L
section LAW
variable {d k : Nat} {o : Int64} {xs : Nat → Int32} {L : Nat} {S S' : AS} {I : Nat → Nat → Int32}
/-- a call without exceptions, in both -/
theorem law_n {v : Int32} {c1 c2 : pm_Mem → pm_Res → Prop} (h : LI xs L S I) (hA : AOK S') (hc : COK S' (.inl v) I k o c1) (hm : ∀ J, MI S J → ∃ t, MOK S' t v J k o c2) : ∃ J1 J2, LI xs L S' J2 ∧ SX xs L J1 ∧ (∀ q, (c1 (Wm I k o) q ↔ q = (.inl (some (.int v)), Wm J1 k o))) ∧ (∀ q, (c2 (Wm J1 k o) q ↔ q = (.inl (some (.int v)), Wm J2 k o))) := by
  obtain ⟨J1, a1, a2, a3⟩ := hc
  obtain ⟨t, J2, b1, b2, b3, b4⟩ := hm J1 (h.2.2.1.hi a2)
  have hs : SX xs L J1 := ⟨fun j => by rw [a2 20000 (by omega)]; exact h.2.2.2.1 j, by rw [a2 20001 (by omega)]; exact h.2.2.2.2⟩
  exact ⟨J1, J2, ⟨hA, a1.lo b2 hA.2.2.1, b1, fun j => by rw [b2 20000 (by omega)]; exact hs.1 j, by rw [b2 20001 (by omega)]; exact hs.2⟩, hs, a3, b4⟩
/-- a call that may throw, in both -/
theorem law_e {r : Int32 ⊕ Nat} {t : Int32} {c1 c2 : pm_Mem → pm_Res → Prop} (h : LI xs L S I) (hA : AOK S') (hc : HOK S' r t I k o c1) (hm : ∀ J, MI S J → MOK S' t (m_val r) J (kk r k) (oo r o) c2) : ∃ J1 J2, LI xs L S' J2 ∧ SX xs L J1 ∧ J2 538 0 = t ∧ (∀ q, (c1 (Wm I k o) q ↔ q = (.inl (some (.int t)), Wm J1 (kk r k) (oo r o)))) ∧ (∀ q, (c2 (Wm J1 (kk r k) (oo r o)) q ↔ q = (.inl (some (.int (m_val r))), Wm J2 (kk r k) (oo r o)))) := by
  obtain ⟨J1, a1, a2, a3⟩ := hc
  obtain ⟨J2, b1, b2, b3, b4⟩ := hm J1 (h.2.2.1.hi a2)
  have hs : SX xs L J1 := ⟨fun j => by rw [a2 20000 (by omega)]; exact h.2.2.2.1 j, by rw [a2 20001 (by omega)]; exact h.2.2.2.2⟩
  exact ⟨J1, J2, ⟨hA, a1.lo b2 hA.2.2.1, b1, fun j => by rw [b2 20000 (by omega)]; exact hs.1 j, by rw [b2 20001 (by omega)]; exact hs.2⟩, hs, b3, a3, b4⟩
theorem lg_same (x : Int64) : lg_cmp x x = 0 := by
  unfold lg_cmp
  simp
theorem kk_le {r : Int32 ⊕ Nat} {k : Nat} : kk r k ≤ k + 1 := by
  cases r with
  | inl v => exact Nat.le_succ k
  | inr e => exact Nat.le_refl _
/-- the law's locals -/
abbrev ll (i : Nat) (y5 y6 : Option Value) : List (Option Value) := [some (.ref 20000), some (.ref 0), some (.ref 538), some (.ref 559), some (.int (nI i)), y5, y6]
/-- a call of the law -/
def ST (d : Nat) (xs : Nat → Int32) (L : Nat) (pc i : Nat) (S : AS) (I : Nat → Nat → Int32) (k : Nat) (o : Int64) (y5 y6 : Option Value) : Prop := ∃ S' I' k' o' z5 z6, LI xs L S' I' ∧ k' ≤ k + 1 ∧ ∀ q, (pm_R (d + 70) 121 pc (ll i y5 y6) [] (Wm I k o) q ↔ pm_R (d + 70) 121 819 (ll i z5 z6) [] (Wm I' k' o') q)
theorem ix {i L : Nat} (hL : L ≤ 2048) (hi : i + 4 ≤ L) : (nI i + 1 = nI (i + 1)) ∧ (nI i + 2 = nI (i + 2)) ∧ (nI i + 3 = nI (i + 3)) ∧ (∀ j, j < 4 → (vp_in (nI (i + j)) L ↔ True)) ∧ (∀ j, j < 4 → (nI (i + j)).toNatClampNeg = i + j) ∧ (nI L).toNatClampNeg = L := by
  refine ⟨sm_add i 1, sm_add i 2, sm_add i 3, fun j hj => iff_true_intro ((sm_in (by omega)).mpr (by omega)), fun j hj => sm_cl (by omega), sm_cl (by omega)⟩

theorem l_type (hL : L ≤ 2048) {i : Nat} (hi : i + 4 ≤ L) (h : LI xs L S I) {y5 y6 : Option Value} : ST d xs L 116 i S I k o y5 y6 := by
  obtain ⟨ix1, ix2, ix3, hv, hcl, clL⟩ := ix hL hi
  have vp_1' := hv 1 (by omega)
  have vp_2' := hv 2 (by omega)
  have vp_3' := hv 3 (by omega)
  have cl1 := hcl 1 (by omega)
  have cl2 := hcl 2 (by omega)
  have cl3 := hcl 3 (by omega)
  have x0 := h.2.2.2.1
  have xL := h.2.2.2.2
  obtain ⟨v, hvv⟩ : ∃ v, v = (((xs (i + 1)).toInt64 <<< ((32 : Int32).toInt64 &&& 63)) ||| ((xs (i + 2)).toInt64 &&& 4294967295)) := ⟨_, rfl⟩
  have hl := law_n (c1 := fun M q => pm_C (d + 70) 1 [.ref 0, .long v] M q) (c2 := fun M q => pm_C (d + 70) 24 [.ref 538, .long v] M q) h (ak_text h.1 (type_ok (v := v) h.1.1)) (k1 (d := d + 68) (k := k) (o := o) (v := v) h.1 h.2.1) (fun J hJ => ⟨_, m24 (d := d + 69) (v := v) h.1 hJ⟩)
  obtain ⟨J1, J2, g1, g2, g3, g4⟩ := hl
  refine ⟨_, J2, k, o, y5, y6, g1, Nat.le_succ k, fun q => ?_⟩
  simp (decide := true) only [q121_116, q121_117, q121_118, q121_120, q121_121, q121_122, q121_123, q121_124, q121_126, q121_127, q121_128, q121_130, q121_131, q121_132, q121_133, q121_134, q121_137, q121_138, q121_139, q121_142, q121_143, q121_144, q121_146, q121_147, q121_148, q121_149, q121_150, q121_152, q121_153, q121_154, q121_156, q121_157, q121_158, q121_159, q121_160, q121_163, q121_164, q121_165, q121_168, W_1, W_I, W_mk, W_tk, pm_rv, rf_0_0, rf_0_1, rf_0_2, rf_0_3, rf_0_4, rf_0_7, rf_0_8, rf_1_0, rf_1_2, rf_3_0, rf_3_1, rf_3_6, rf_3_7, rf_3_8, rf_9_0, rf_9_1, rf_10_0, rf_10_1, rf_10_6, rf_10_7, rf_10_8, rf_17_0, rf_17_1, rf_538_2, rf_538_6, rf_538_7, rf_538_9, rf_538_11, rf_538_12, rf_538_18, rf_538_19, rf_538_22, rf_538_23, rf_538_25, rf_538_27, rf_538_28, rf_538_30, rf_538_31, rf_538_32, rf_538_33, rf_538_34, rf_538_35, rf_538_36, ob_0, ob_1, ob_3, ob_9, ob_10, ob_17, ob_538, ar_2, ar_4, ar_5, ar_6, ar_7, ar_8, ar_11, ar_12, ar_13, ar_14, ar_15, ar_16, ar_116, ar_117, ar_539, ar_540, ar_541, ar_542, ar_543, ar_544, ar_545, ar_546, ar_547, ar_548, ar_549, ar_550, ar_551, ar_552, ar_553, ar_554, ar_555, ar_556, ar_557, ar_558, ex_eq, ex_ite, pm_bk_r, pm_bk_t, ol_nil, ol_one, true_and, and_true, false_and, and_false, reduceIte, Nat.reduceEqDiff, up_at, Nat.add_left_cancel_iff, x0, xL, ix1, ix2, ix3, vp_1', vp_2', vp_3', cl1, cl2, cl3, clL,  g2.1, g2.2, g3, g4, hvv.symm]
theorem l_wipe {i : Nat} (h : LI xs L S I) {y5 y6 : Option Value} : ST d xs L 173 i S I k o y5 y6 := by
  obtain ⟨J1, a1, a2, a3⟩ := k3 (d := d + 69) (k := k) (o := o) h.2.1
  obtain ⟨J2, b1, b2, b3⟩ := m25 (d := d + 69) (k := k) (o := o) (h.2.2.1.hi a2)
  have hA : AOK ([], S.2) := ak_text h.1 ⟨by simp, fun c hc => (by cases hc)⟩
  refine ⟨([], S.2), J2, k, o, y5, y6, ⟨hA, a1.lo b2 hA.2.2.1, b1, fun j => by rw [b2 20000 (by omega), a2 20000 (by omega)]; exact h.2.2.2.1 j, by rw [b2 20001 (by omega), a2 20001 (by omega)]; exact h.2.2.2.2⟩, Nat.le_succ k, fun q => ?_⟩
  simp (decide := true) only [q121_173, q121_174, q121_177, q121_178, q121_181, W_1, W_I, W_mk, W_tk, pm_rv, rf_0_0, rf_0_1, rf_0_2, rf_0_3, rf_0_4, rf_0_7, rf_0_8, rf_1_0, rf_1_2, rf_3_0, rf_3_1, rf_3_6, rf_3_7, rf_3_8, rf_9_0, rf_9_1, rf_10_0, rf_10_1, rf_10_6, rf_10_7, rf_10_8, rf_17_0, rf_17_1, rf_538_2, rf_538_6, rf_538_7, rf_538_9, rf_538_11, rf_538_12, rf_538_18, rf_538_19, rf_538_22, rf_538_23, rf_538_25, rf_538_27, rf_538_28, rf_538_30, rf_538_31, rf_538_32, rf_538_33, rf_538_34, rf_538_35, rf_538_36, ob_0, ob_1, ob_3, ob_9, ob_10, ob_17, ob_538, ar_2, ar_4, ar_5, ar_6, ar_7, ar_8, ar_11, ar_12, ar_13, ar_14, ar_15, ar_16, ar_116, ar_117, ar_539, ar_540, ar_541, ar_542, ar_543, ar_544, ar_545, ar_546, ar_547, ar_548, ar_549, ar_550, ar_551, ar_552, ar_553, ar_554, ar_555, ar_556, ar_557, ar_558, ex_eq, ex_ite, pm_bk_r, pm_bk_t, ol_nil, ol_one, true_and, and_true, false_and, and_false, reduceIte, Nat.reduceEqDiff, up_at, Nat.add_left_cancel_iff, a3, b3]
theorem l_put (hL : L ≤ 2048) {i : Nat} (hi : i + 4 ≤ L) (h : LI xs L S I) {y5 y6 : Option Value} : ST d xs L 380 i S I k o y5 y6 := by
  obtain ⟨ix1, ix2, ix3, hv, hcl, clL⟩ := ix hL hi
  have vp_1' := hv 1 (by omega)
  have vp_2' := hv 2 (by omega)
  have vp_3' := hv 3 (by omega)
  have cl1 := hcl 1 (by omega)
  have cl2 := hcl 2 (by omega)
  have cl3 := hcl 3 (by omega)
  have x0 := h.2.2.2.1
  have xL := h.2.2.2.2
  have hl := law_n (c1 := fun M q => pm_C (d + 70) 8 [.ref 0, .int (xs (i + 1)), .int (xs (i + 2))] M q) (c2 := fun M q => pm_C (d + 70) 63 [.ref 538, .int (xs (i + 1)), .int (xs (i + 2))] M q) h (ak_put h.1 (c := xs (i + 1)) (p := xs (i + 2))) (k8 (d := d + 67) (k := k) (o := o) h.1 h.2.1) (fun J hJ => ⟨_, m63 (d := d + 67) h.1 hJ⟩)
  obtain ⟨J1, J2, g1, g2, g3, g4⟩ := hl
  refine ⟨_, J2, k, o, y5, y6, g1, Nat.le_succ k, fun q => ?_⟩
  simp (decide := true) only [q121_380, q121_381, q121_382, q121_384, q121_385, q121_386, q121_387, q121_388, q121_390, q121_391, q121_392, q121_393, q121_396, q121_397, q121_398, q121_400, q121_401, q121_402, q121_403, q121_404, q121_406, q121_407, q121_408, q121_409, q121_412, W_1, W_I, W_mk, W_tk, pm_rv, rf_0_0, rf_0_1, rf_0_2, rf_0_3, rf_0_4, rf_0_7, rf_0_8, rf_1_0, rf_1_2, rf_3_0, rf_3_1, rf_3_6, rf_3_7, rf_3_8, rf_9_0, rf_9_1, rf_10_0, rf_10_1, rf_10_6, rf_10_7, rf_10_8, rf_17_0, rf_17_1, rf_538_2, rf_538_6, rf_538_7, rf_538_9, rf_538_11, rf_538_12, rf_538_18, rf_538_19, rf_538_22, rf_538_23, rf_538_25, rf_538_27, rf_538_28, rf_538_30, rf_538_31, rf_538_32, rf_538_33, rf_538_34, rf_538_35, rf_538_36, ob_0, ob_1, ob_3, ob_9, ob_10, ob_17, ob_538, ar_2, ar_4, ar_5, ar_6, ar_7, ar_8, ar_11, ar_12, ar_13, ar_14, ar_15, ar_16, ar_116, ar_117, ar_539, ar_540, ar_541, ar_542, ar_543, ar_544, ar_545, ar_546, ar_547, ar_548, ar_549, ar_550, ar_551, ar_552, ar_553, ar_554, ar_555, ar_556, ar_557, ar_558, ex_eq, ex_ite, pm_bk_r, pm_bk_t, ol_nil, ol_one, true_and, and_true, false_and, and_false, reduceIte, Nat.reduceEqDiff, up_at, Nat.add_left_cancel_iff, x0, xL, ix1, ix2, ix3, vp_1', vp_2', vp_3', cl1, cl2, cl3, clL,  g2.1, g2.2, g3, g4]
theorem l_moves (hL : L ≤ 2048) {i : Nat} (hi : i + 4 ≤ L) (h : LI xs L S I) {y5 y6 : Option Value} : ST d xs L 417 i S I k o y5 y6 := by
  obtain ⟨ix1, ix2, ix3, hv, hcl, clL⟩ := ix hL hi
  have vp_1' := hv 1 (by omega)
  have vp_2' := hv 2 (by omega)
  have vp_3' := hv 3 (by omega)
  have cl1 := hcl 1 (by omega)
  have cl2 := hcl 2 (by omega)
  have cl3 := hcl 3 (by omega)
  have x0 := h.2.2.2.1
  have xL := h.2.2.2.2
  have hk9 : COK S (.inl (nI (o_mv S).length)) I k o (fun M q => pm_C (d + 70) 9 [.ref 0] M q) := by
    obtain ⟨J, g1, g2, -, -, g5⟩ := k9 (d := d + 64) (k := k) (o := o) h.1 h.2.1
    exact ⟨J, g1, g2, g5⟩
  have hl := law_n (c1 := fun M q => pm_C (d + 70) 9 [.ref 0] M q) (c2 := fun M q => pm_C (d + 70) 65 [.ref 538] M q) h h.1 hk9 (fun J hJ => ⟨_, m65 (d := d + 61) h.1 hJ⟩)
  obtain ⟨J1, J2, g1, g2, g3, g4⟩ := hl
  refine ⟨_, J2, k, o, y5, y6, g1, Nat.le_succ k, fun q => ?_⟩
  simp (decide := true) only [q121_417, q121_418, q121_421, q121_422, q121_425, W_1, W_I, W_mk, W_tk, pm_rv, rf_0_0, rf_0_1, rf_0_2, rf_0_3, rf_0_4, rf_0_7, rf_0_8, rf_1_0, rf_1_2, rf_3_0, rf_3_1, rf_3_6, rf_3_7, rf_3_8, rf_9_0, rf_9_1, rf_10_0, rf_10_1, rf_10_6, rf_10_7, rf_10_8, rf_17_0, rf_17_1, rf_538_2, rf_538_6, rf_538_7, rf_538_9, rf_538_11, rf_538_12, rf_538_18, rf_538_19, rf_538_22, rf_538_23, rf_538_25, rf_538_27, rf_538_28, rf_538_30, rf_538_31, rf_538_32, rf_538_33, rf_538_34, rf_538_35, rf_538_36, ob_0, ob_1, ob_3, ob_9, ob_10, ob_17, ob_538, ar_2, ar_4, ar_5, ar_6, ar_7, ar_8, ar_11, ar_12, ar_13, ar_14, ar_15, ar_16, ar_116, ar_117, ar_539, ar_540, ar_541, ar_542, ar_543, ar_544, ar_545, ar_546, ar_547, ar_548, ar_549, ar_550, ar_551, ar_552, ar_553, ar_554, ar_555, ar_556, ar_557, ar_558, ex_eq, ex_ite, pm_bk_r, pm_bk_t, ol_nil, ol_one, true_and, and_true, false_and, and_false, reduceIte, Nat.reduceEqDiff, up_at, Nat.add_left_cancel_iff, x0, xL, ix1, ix2, ix3, vp_1', vp_2', vp_3', cl1, cl2, cl3, clL,  g2.1, g2.2, g3, g4]
theorem l_undo (hL : L ≤ 2048) {i : Nat} (hi : i + 4 ≤ L) (h : LI xs L S I) {y5 y6 : Option Value} : ST d xs L 570 i S I k o y5 y6 := by
  obtain ⟨ix1, ix2, ix3, hv, hcl, clL⟩ := ix hL hi
  have vp_1' := hv 1 (by omega)
  have vp_2' := hv 2 (by omega)
  have vp_3' := hv 3 (by omega)
  have cl1 := hcl 1 (by omega)
  have cl2 := hcl 2 (by omega)
  have cl3 := hcl 3 (by omega)
  have x0 := h.2.2.2.1
  have xL := h.2.2.2.2
  have hl := law_n (c1 := fun M q => pm_C (d + 70) 15 [.ref 0] M q) (c2 := fun M q => pm_C (d + 70) 68 [.ref 538] M q) h (ak_undo h.1) (k15 (d := d + 68) (k := k) (o := o) h.1 h.2.1) (fun J hJ => ⟨_, m68 (d := d + 69) h.1 hJ⟩)
  obtain ⟨J1, J2, g1, g2, g3, g4⟩ := hl
  refine ⟨_, J2, k, o, y5, y6, g1, Nat.le_succ k, fun q => ?_⟩
  simp (decide := true) only [q121_570, q121_571, q121_574, q121_575, q121_578, W_1, W_I, W_mk, W_tk, pm_rv, rf_0_0, rf_0_1, rf_0_2, rf_0_3, rf_0_4, rf_0_7, rf_0_8, rf_1_0, rf_1_2, rf_3_0, rf_3_1, rf_3_6, rf_3_7, rf_3_8, rf_9_0, rf_9_1, rf_10_0, rf_10_1, rf_10_6, rf_10_7, rf_10_8, rf_17_0, rf_17_1, rf_538_2, rf_538_6, rf_538_7, rf_538_9, rf_538_11, rf_538_12, rf_538_18, rf_538_19, rf_538_22, rf_538_23, rf_538_25, rf_538_27, rf_538_28, rf_538_30, rf_538_31, rf_538_32, rf_538_33, rf_538_34, rf_538_35, rf_538_36, ob_0, ob_1, ob_3, ob_9, ob_10, ob_17, ob_538, ar_2, ar_4, ar_5, ar_6, ar_7, ar_8, ar_11, ar_12, ar_13, ar_14, ar_15, ar_16, ar_116, ar_117, ar_539, ar_540, ar_541, ar_542, ar_543, ar_544, ar_545, ar_546, ar_547, ar_548, ar_549, ar_550, ar_551, ar_552, ar_553, ar_554, ar_555, ar_556, ar_557, ar_558, ex_eq, ex_ite, pm_bk_r, pm_bk_t, ol_nil, ol_one, true_and, and_true, false_and, and_false, reduceIte, Nat.reduceEqDiff, up_at, Nat.add_left_cancel_iff, x0, xL, ix1, ix2, ix3, vp_1', vp_2', vp_3', cl1, cl2, cl3, clL,  g2.1, g2.2, g3, g4]
theorem l_card (hL : L ≤ 2048) {i : Nat} (hi : i + 4 ≤ L) (h : LI xs L S I) {y5 y6 : Option Value} : ST d xs L 583 i S I k o y5 y6 := by
  obtain ⟨ix1, ix2, ix3, hv, hcl, clL⟩ := ix hL hi
  have vp_1' := hv 1 (by omega)
  have vp_2' := hv 2 (by omega)
  have vp_3' := hv 3 (by omega)
  have cl1 := hcl 1 (by omega)
  have cl2 := hcl 2 (by omega)
  have cl3 := hcl 3 (by omega)
  have x0 := h.2.2.2.1
  have xL := h.2.2.2.2
  have hkc : COK S (.inl (o_card S (xs (i + 1)) (xs (i + 2)))) I k o (fun M q => pm_C (d + 70) 16 [.ref 0, .int (xs (i + 1)), .int (xs (i + 2))] M q) := ⟨I, h.2.1, fun _ _ => rfl, fun q => k16 (d := d + 67) h.1 h.2.1⟩
  have hl := law_n (c1 := fun M q => pm_C (d + 70) 16 [.ref 0, .int (xs (i + 1)), .int (xs (i + 2))] M q) (c2 := fun M q => pm_C (d + 70) 69 [.ref 538, .int (xs (i + 1)), .int (xs (i + 2))] M q) h h.1 hkc (fun J hJ => ⟨_, m69 (d := d + 68) h.1 hJ⟩)
  obtain ⟨J1, J2, g1, g2, g3, g4⟩ := hl
  refine ⟨_, J2, k, o, y5, y6, g1, Nat.le_succ k, fun q => ?_⟩
  simp (decide := true) only [q121_583, q121_584, q121_585, q121_587, q121_588, q121_589, q121_590, q121_591, q121_593, q121_594, q121_595, q121_596, q121_599, q121_600, q121_601, q121_603, q121_604, q121_605, q121_606, q121_607, q121_609, q121_610, q121_611, q121_612, q121_615, W_1, W_I, W_mk, W_tk, pm_rv, rf_0_0, rf_0_1, rf_0_2, rf_0_3, rf_0_4, rf_0_7, rf_0_8, rf_1_0, rf_1_2, rf_3_0, rf_3_1, rf_3_6, rf_3_7, rf_3_8, rf_9_0, rf_9_1, rf_10_0, rf_10_1, rf_10_6, rf_10_7, rf_10_8, rf_17_0, rf_17_1, rf_538_2, rf_538_6, rf_538_7, rf_538_9, rf_538_11, rf_538_12, rf_538_18, rf_538_19, rf_538_22, rf_538_23, rf_538_25, rf_538_27, rf_538_28, rf_538_30, rf_538_31, rf_538_32, rf_538_33, rf_538_34, rf_538_35, rf_538_36, ob_0, ob_1, ob_3, ob_9, ob_10, ob_17, ob_538, ar_2, ar_4, ar_5, ar_6, ar_7, ar_8, ar_11, ar_12, ar_13, ar_14, ar_15, ar_16, ar_116, ar_117, ar_539, ar_540, ar_541, ar_542, ar_543, ar_544, ar_545, ar_546, ar_547, ar_548, ar_549, ar_550, ar_551, ar_552, ar_553, ar_554, ar_555, ar_556, ar_557, ar_558, ex_eq, ex_ite, pm_bk_r, pm_bk_t, ol_nil, ol_one, true_and, and_true, false_and, and_false, reduceIte, Nat.reduceEqDiff, up_at, Nat.add_left_cancel_iff, x0, xL, ix1, ix2, ix3, vp_1', vp_2', vp_3', cl1, cl2, cl3, clL,  g2.1, g2.2, g3, g4]
theorem l_seen (hL : L ≤ 2048) {i : Nat} (hi : i + 4 ≤ L) (h : LI xs L S I) {y5 y6 : Option Value} : ST d xs L 620 i S I k o y5 y6 := by
  obtain ⟨ix1, ix2, ix3, hv, hcl, clL⟩ := ix hL hi
  have vp_1' := hv 1 (by omega)
  have vp_2' := hv 2 (by omega)
  have vp_3' := hv 3 (by omega)
  have cl1 := hcl 1 (by omega)
  have cl2 := hcl 2 (by omega)
  have cl3 := hcl 3 (by omega)
  have x0 := h.2.2.2.1
  have xL := h.2.2.2.2
  have hkc : COK S (.inl (o_seen S (xs (i + 1)) (xs (i + 2)) (xs (i + 3)))) I k o (fun M q => pm_C (d + 70) 17 [.ref 0, .int (xs (i + 1)), .int (xs (i + 2)), .int (xs (i + 3))] M q) := ⟨I, h.2.1, fun _ _ => rfl, fun q => k17 (d := d + 66) h.1 h.2.1⟩
  have hl := law_n (c1 := fun M q => pm_C (d + 70) 17 [.ref 0, .int (xs (i + 1)), .int (xs (i + 2)), .int (xs (i + 3))] M q) (c2 := fun M q => pm_C (d + 70) 70 [.ref 538, .int (xs (i + 1)), .int (xs (i + 2)), .int (xs (i + 3))] M q) h h.1 hkc (fun J hJ => ⟨_, m70 (d := d + 67) h.1 hJ⟩)
  obtain ⟨J1, J2, g1, g2, g3, g4⟩ := hl
  refine ⟨_, J2, k, o, y5, y6, g1, Nat.le_succ k, fun q => ?_⟩
  simp (decide := true) only [q121_620, q121_621, q121_622, q121_624, q121_625, q121_626, q121_627, q121_628, q121_630, q121_631, q121_632, q121_633, q121_634, q121_636, q121_637, q121_638, q121_639, q121_642, q121_643, q121_644, q121_646, q121_647, q121_648, q121_649, q121_650, q121_652, q121_653, q121_654, q121_655, q121_656, q121_658, q121_659, q121_660, q121_661, q121_664, W_1, W_I, W_mk, W_tk, pm_rv, rf_0_0, rf_0_1, rf_0_2, rf_0_3, rf_0_4, rf_0_7, rf_0_8, rf_1_0, rf_1_2, rf_3_0, rf_3_1, rf_3_6, rf_3_7, rf_3_8, rf_9_0, rf_9_1, rf_10_0, rf_10_1, rf_10_6, rf_10_7, rf_10_8, rf_17_0, rf_17_1, rf_538_2, rf_538_6, rf_538_7, rf_538_9, rf_538_11, rf_538_12, rf_538_18, rf_538_19, rf_538_22, rf_538_23, rf_538_25, rf_538_27, rf_538_28, rf_538_30, rf_538_31, rf_538_32, rf_538_33, rf_538_34, rf_538_35, rf_538_36, ob_0, ob_1, ob_3, ob_9, ob_10, ob_17, ob_538, ar_2, ar_4, ar_5, ar_6, ar_7, ar_8, ar_11, ar_12, ar_13, ar_14, ar_15, ar_16, ar_116, ar_117, ar_539, ar_540, ar_541, ar_542, ar_543, ar_544, ar_545, ar_546, ar_547, ar_548, ar_549, ar_550, ar_551, ar_552, ar_553, ar_554, ar_555, ar_556, ar_557, ar_558, ex_eq, ex_ite, pm_bk_r, pm_bk_t, ol_nil, ol_one, true_and, and_true, false_and, and_false, reduceIte, Nat.reduceEqDiff, up_at, Nat.add_left_cancel_iff, x0, xL, ix1, ix2, ix3, vp_1', vp_2', vp_3', cl1, cl2, cl3, clL,  g2.1, g2.2, g3, g4]
theorem l_look (hL : L ≤ 2048) {i : Nat} (hi : i + 4 ≤ L) (h : LI xs L S I) {y5 y6 : Option Value} : ST d xs L 725 i S I k o y5 y6 := by
  obtain ⟨ix1, ix2, ix3, hv, hcl, clL⟩ := ix hL hi
  have vp_1' := hv 1 (by omega)
  have vp_2' := hv 2 (by omega)
  have vp_3' := hv 3 (by omega)
  have cl1 := hcl 1 (by omega)
  have cl2 := hcl 2 (by omega)
  have cl3 := hcl 3 (by omega)
  have x0 := h.2.2.2.1
  have xL := h.2.2.2.2
  have hl := law_n (c1 := fun M q => pm_C (d + 70) 19 [.ref 0, .int (xs (i + 1))] M q) (c2 := fun M q => pm_C (d + 70) 72 [.ref 538, .int (xs (i + 1))] M q) h h.1 (k19 (d := d + 63) (k := k) (o := o) h.1 h.2.1) (fun J hJ => ⟨_, m72 (d := d + 61) h.1 hJ⟩)
  obtain ⟨J1, J2, g1, g2, g3, g4⟩ := hl
  refine ⟨_, J2, k, o, y5, y6, g1, Nat.le_succ k, fun q => ?_⟩
  simp (decide := true) only [q121_725, q121_726, q121_727, q121_729, q121_730, q121_731, q121_732, q121_735, q121_736, q121_737, q121_739, q121_740, q121_741, q121_742, q121_745, W_1, W_I, W_mk, W_tk, pm_rv, rf_0_0, rf_0_1, rf_0_2, rf_0_3, rf_0_4, rf_0_7, rf_0_8, rf_1_0, rf_1_2, rf_3_0, rf_3_1, rf_3_6, rf_3_7, rf_3_8, rf_9_0, rf_9_1, rf_10_0, rf_10_1, rf_10_6, rf_10_7, rf_10_8, rf_17_0, rf_17_1, rf_538_2, rf_538_6, rf_538_7, rf_538_9, rf_538_11, rf_538_12, rf_538_18, rf_538_19, rf_538_22, rf_538_23, rf_538_25, rf_538_27, rf_538_28, rf_538_30, rf_538_31, rf_538_32, rf_538_33, rf_538_34, rf_538_35, rf_538_36, ob_0, ob_1, ob_3, ob_9, ob_10, ob_17, ob_538, ar_2, ar_4, ar_5, ar_6, ar_7, ar_8, ar_11, ar_12, ar_13, ar_14, ar_15, ar_16, ar_116, ar_117, ar_539, ar_540, ar_541, ar_542, ar_543, ar_544, ar_545, ar_546, ar_547, ar_548, ar_549, ar_550, ar_551, ar_552, ar_553, ar_554, ar_555, ar_556, ar_557, ar_558, ex_eq, ex_ite, pm_bk_r, pm_bk_t, ol_nil, ol_one, true_and, and_true, false_and, and_false, reduceIte, Nat.reduceEqDiff, up_at, Nat.add_left_cancel_iff, x0, xL, ix1, ix2, ix3, vp_1', vp_2', vp_3', cl1, cl2, cl3, clL,  g2.1, g2.2, g3, g4]
theorem l_best (hL : L ≤ 2048) {i : Nat} (hi : i + 4 ≤ L) (h : LI xs L S I) {y5 y6 : Option Value} : ST d xs L 806 i S I k o y5 y6 := by
  obtain ⟨ix1, ix2, ix3, hv, hcl, clL⟩ := ix hL hi
  have vp_1' := hv 1 (by omega)
  have vp_2' := hv 2 (by omega)
  have vp_3' := hv 3 (by omega)
  have cl1 := hcl 1 (by omega)
  have cl2 := hcl 2 (by omega)
  have cl3 := hcl 3 (by omega)
  have x0 := h.2.2.2.1
  have xL := h.2.2.2.2
  have hkc : COK S (.inl S.2.2.2.2) I k o (fun M q => pm_C (d + 70) 21 [.ref 0] M q) := ⟨I, h.2.1, fun _ _ => rfl, fun q => k21 (d := d + 69) h.2.1⟩
  have hl := law_n (c1 := fun M q => pm_C (d + 70) 21 [.ref 0] M q) (c2 := fun M q => pm_C (d + 70) 78 [.ref 538] M q) h h.1 hkc (fun J hJ => ⟨_, m78 (d := d + 69) hJ⟩)
  obtain ⟨J1, J2, g1, g2, g3, g4⟩ := hl
  refine ⟨_, J2, k, o, y5, y6, g1, Nat.le_succ k, fun q => ?_⟩
  simp (decide := true) only [q121_806, q121_807, q121_810, q121_811, q121_814, W_1, W_I, W_mk, W_tk, pm_rv, rf_0_0, rf_0_1, rf_0_2, rf_0_3, rf_0_4, rf_0_7, rf_0_8, rf_1_0, rf_1_2, rf_3_0, rf_3_1, rf_3_6, rf_3_7, rf_3_8, rf_9_0, rf_9_1, rf_10_0, rf_10_1, rf_10_6, rf_10_7, rf_10_8, rf_17_0, rf_17_1, rf_538_2, rf_538_6, rf_538_7, rf_538_9, rf_538_11, rf_538_12, rf_538_18, rf_538_19, rf_538_22, rf_538_23, rf_538_25, rf_538_27, rf_538_28, rf_538_30, rf_538_31, rf_538_32, rf_538_33, rf_538_34, rf_538_35, rf_538_36, ob_0, ob_1, ob_3, ob_9, ob_10, ob_17, ob_538, ar_2, ar_4, ar_5, ar_6, ar_7, ar_8, ar_11, ar_12, ar_13, ar_14, ar_15, ar_16, ar_116, ar_117, ar_539, ar_540, ar_541, ar_542, ar_543, ar_544, ar_545, ar_546, ar_547, ar_548, ar_549, ar_550, ar_551, ar_552, ar_553, ar_554, ar_555, ar_556, ar_557, ar_558, ex_eq, ex_ite, pm_bk_r, pm_bk_t, ol_nil, ol_one, true_and, and_true, false_and, and_false, reduceIte, Nat.reduceEqDiff, up_at, Nat.add_left_cancel_iff, x0, xL, ix1, ix2, ix3, vp_1', vp_2', vp_3', cl1, cl2, cl3, clL,  g2.1, g2.2, g3, g4]
theorem l_compile (hL : L ≤ 2048) {i : Nat} (hi : i + 4 ≤ L) (h : LI xs L S I) {y5 y6 : Option Value} : ST d xs L 184 i S I k o y5 y6 := by
  obtain ⟨ix1, ix2, ix3, hv, hcl, clL⟩ := ix hL hi
  have vp_1' := hv 1 (by omega)
  have vp_2' := hv 2 (by omega)
  have vp_3' := hv 3 (by omega)
  have cl1 := hcl 1 (by omega)
  have cl2 := hcl 2 (by omega)
  have cl3 := hcl 3 (by omega)
  have x0 := h.2.2.2.1
  have xL := h.2.2.2.2
  have hl := law_e (c1 := fun M q => pm_C (d + 70) 114 [.ref 0, .ref 559] M q) (c2 := fun M q => pm_C (d + 70) 45 [.ref 538] M q) h (ak_comp h.1) (h114 (d := d) (k4 (d := d) (k := k) (o := o) h.1 h.2.1) r_comp) (fun J hJ => m45 (d := d + 61) h.1 hJ)
  obtain ⟨J1, J2, g1, g2, g5, g3, g4⟩ := hl
  refine ⟨_, J2, kk (o_comp S).2 k, oo (o_comp S).2 o, some (.int (t_comp (o_comp S).2)), some (.int (m_val (o_comp S).2)), g1, kk_le (r := (o_comp S).2), fun q => ?_⟩
  have h23 : ∀ q, (pm_C (d + 70) 23 [.ref 538] (Wm J2 (kk (o_comp S).2 k) (oo (o_comp S).2 o)) q ↔ q = (.inl (some (.int (t_comp (o_comp S).2))), Wm J2 (kk (o_comp S).2 k) (oo (o_comp S).2 o))) := fun q => by
    have := m23 (d := d + 69) (k := kk (o_comp S).2 k) (o := oo (o_comp S).2 o) (I := J2) (q := q)
    rw [g5] at this
    exact this
  have hfin : t_comp (o_comp S).2 = 0 → oo (o_comp S).2 o = (m_val (o_comp S).2).toInt64 := by
    rcases r_comp (S := S) with ⟨v, e⟩ | e | e
    · rw [e]; intro _; rfl
    · rw [e]; intro q; exact absurd q (by decide)
    · rw [e]; intro q; exact absurd q (by decide)
  by_cases ht : t_comp (o_comp S).2 = 0
  · have hf := hfin ht
    rw [ht] at g3 h23
    rw [hf] at g3 g4 h23
    simp (decide := true) only [q121_184, q121_185, q121_186, q121_189, q121_191, q121_192, q121_195, q121_197, q121_198, q121_201, q121_203, q121_206, q121_207, q121_208, q121_210, q121_213, q121_214, q121_215, q121_216, q121_218, q121_219, q121_220, q121_223, q121_224, q121_225, W_1, W_I, W_mk, W_tk, pm_rv, rf_0_0, rf_0_1, rf_0_2, rf_0_3, rf_0_4, rf_0_7, rf_0_8, rf_1_0, rf_1_2, rf_3_0, rf_3_1, rf_3_6, rf_3_7, rf_3_8, rf_9_0, rf_9_1, rf_10_0, rf_10_1, rf_10_6, rf_10_7, rf_10_8, rf_17_0, rf_17_1, rf_538_2, rf_538_6, rf_538_7, rf_538_9, rf_538_11, rf_538_12, rf_538_18, rf_538_19, rf_538_22, rf_538_23, rf_538_25, rf_538_27, rf_538_28, rf_538_30, rf_538_31, rf_538_32, rf_538_33, rf_538_34, rf_538_35, rf_538_36, ob_0, ob_1, ob_3, ob_9, ob_10, ob_17, ob_538, ar_2, ar_4, ar_5, ar_6, ar_7, ar_8, ar_11, ar_12, ar_13, ar_14, ar_15, ar_16, ar_116, ar_117, ar_539, ar_540, ar_541, ar_542, ar_543, ar_544, ar_545, ar_546, ar_547, ar_548, ar_549, ar_550, ar_551, ar_552, ar_553, ar_554, ar_555, ar_556, ar_557, ar_558, ex_eq, ex_ite, pm_bk_r, pm_bk_t, ol_nil, ol_one, true_and, and_true, false_and, and_false, reduceIte, Nat.reduceEqDiff, up_at, Nat.add_left_cancel_iff, x0, xL, ix1, ix2, ix3, vp_1', vp_2', vp_3', cl1, cl2, cl3, clL,  g2.1, g2.2, g3, g4, h23, ht, hf, ar_559, vp_0, kc0, lg_same, W_L]
  · simp (decide := true) only [q121_184, q121_185, q121_186, q121_189, q121_191, q121_192, q121_195, q121_197, q121_198, q121_201, q121_203, q121_206, q121_207, q121_208, q121_210, q121_213, q121_214, q121_215, q121_216, q121_218, q121_219, q121_220, q121_223, q121_224, q121_225, W_1, W_I, W_mk, W_tk, pm_rv, rf_0_0, rf_0_1, rf_0_2, rf_0_3, rf_0_4, rf_0_7, rf_0_8, rf_1_0, rf_1_2, rf_3_0, rf_3_1, rf_3_6, rf_3_7, rf_3_8, rf_9_0, rf_9_1, rf_10_0, rf_10_1, rf_10_6, rf_10_7, rf_10_8, rf_17_0, rf_17_1, rf_538_2, rf_538_6, rf_538_7, rf_538_9, rf_538_11, rf_538_12, rf_538_18, rf_538_19, rf_538_22, rf_538_23, rf_538_25, rf_538_27, rf_538_28, rf_538_30, rf_538_31, rf_538_32, rf_538_33, rf_538_34, rf_538_35, rf_538_36, ob_0, ob_1, ob_3, ob_9, ob_10, ob_17, ob_538, ar_2, ar_4, ar_5, ar_6, ar_7, ar_8, ar_11, ar_12, ar_13, ar_14, ar_15, ar_16, ar_116, ar_117, ar_539, ar_540, ar_541, ar_542, ar_543, ar_544, ar_545, ar_546, ar_547, ar_548, ar_549, ar_550, ar_551, ar_552, ar_553, ar_554, ar_555, ar_556, ar_557, ar_558, ex_eq, ex_ite, pm_bk_r, pm_bk_t, ol_nil, ol_one, true_and, and_true, false_and, and_false, reduceIte, Nat.reduceEqDiff, up_at, Nat.add_left_cancel_iff, x0, xL, ix1, ix2, ix3, vp_1', vp_2', vp_3', cl1, cl2, cl3, clL,  g2.1, g2.2, g3, g4, h23, ht]
theorem l_deal (hL : L ≤ 2048) {i : Nat} (hi : i + 4 ≤ L) (h : LI xs L S I) {y5 y6 : Option Value} : ST d xs L 312 i S I k o y5 y6 := by
  obtain ⟨ix1, ix2, ix3, hv, hcl, clL⟩ := ix hL hi
  have vp_1' := hv 1 (by omega)
  have vp_2' := hv 2 (by omega)
  have vp_3' := hv 3 (by omega)
  have cl1 := hcl 1 (by omega)
  have cl2 := hcl 2 (by omega)
  have cl3 := hcl 3 (by omega)
  have x0 := h.2.2.2.1
  have xL := h.2.2.2.2
  have hl := law_e (c1 := fun M q => pm_C (d + 70) 116 [.ref 0, .int (xs (i + 1)), .int (xs (i + 2)), .ref 559] M q) (c2 := fun M q => pm_C (d + 70) 62 [.ref 538, .int (xs (i + 1)), .int (xs (i + 2))] M q) h (ak_deal h.1 (seed := xs (i + 1)) (n := xs (i + 2))) (h116 (d := d) (k6 (d := d + 66) (k := k) (o := o) h.1 h.2.1) r_deal) (fun J hJ => m62 (d := d + 67) h.1 hJ)
  obtain ⟨J1, J2, g1, g2, g5, g3, g4⟩ := hl
  refine ⟨_, J2, kk (o_deal S (xs (i + 1)) (xs (i + 2))).2 k, oo (o_deal S (xs (i + 1)) (xs (i + 2))).2 o, some (.int (t_deal (o_deal S (xs (i + 1)) (xs (i + 2))).2)), some (.int (m_val (o_deal S (xs (i + 1)) (xs (i + 2))).2)), g1, kk_le (r := (o_deal S (xs (i + 1)) (xs (i + 2))).2), fun q => ?_⟩
  have h23 : ∀ q, (pm_C (d + 70) 23 [.ref 538] (Wm J2 (kk (o_deal S (xs (i + 1)) (xs (i + 2))).2 k) (oo (o_deal S (xs (i + 1)) (xs (i + 2))).2 o)) q ↔ q = (.inl (some (.int (t_deal (o_deal S (xs (i + 1)) (xs (i + 2))).2))), Wm J2 (kk (o_deal S (xs (i + 1)) (xs (i + 2))).2 k) (oo (o_deal S (xs (i + 1)) (xs (i + 2))).2 o))) := fun q => by
    have := m23 (d := d + 69) (k := kk (o_deal S (xs (i + 1)) (xs (i + 2))).2 k) (o := oo (o_deal S (xs (i + 1)) (xs (i + 2))).2 o) (I := J2) (q := q)
    rw [g5] at this
    exact this
  have hfin : t_deal (o_deal S (xs (i + 1)) (xs (i + 2))).2 = 0 → oo (o_deal S (xs (i + 1)) (xs (i + 2))).2 o = (m_val (o_deal S (xs (i + 1)) (xs (i + 2))).2).toInt64 := by
    rcases r_deal (S := S) (x := xs (i + 1)) (y := xs (i + 2)) with ⟨v, e⟩ | e | e
    · rw [e]; intro _; rfl
    · rw [e]; intro q; exact absurd q (by decide)
    · rw [e]; intro q; exact absurd q (by decide)
  by_cases ht : t_deal (o_deal S (xs (i + 1)) (xs (i + 2))).2 = 0
  · have hf := hfin ht
    rw [ht] at g3 h23
    rw [hf] at g3 g4 h23
    simp (decide := true) only [q121_312, q121_313, q121_314, q121_316, q121_317, q121_318, q121_319, q121_320, q121_322, q121_323, q121_324, q121_325, q121_326, q121_329, q121_331, q121_332, q121_333, q121_335, q121_336, q121_337, q121_338, q121_339, q121_341, q121_342, q121_343, q121_344, q121_347, q121_349, q121_350, q121_353, q121_355, q121_358, q121_359, q121_360, q121_362, q121_365, q121_366, q121_367, q121_368, q121_370, q121_371, q121_372, q121_375, q121_376, q121_377, W_1, W_I, W_mk, W_tk, pm_rv, rf_0_0, rf_0_1, rf_0_2, rf_0_3, rf_0_4, rf_0_7, rf_0_8, rf_1_0, rf_1_2, rf_3_0, rf_3_1, rf_3_6, rf_3_7, rf_3_8, rf_9_0, rf_9_1, rf_10_0, rf_10_1, rf_10_6, rf_10_7, rf_10_8, rf_17_0, rf_17_1, rf_538_2, rf_538_6, rf_538_7, rf_538_9, rf_538_11, rf_538_12, rf_538_18, rf_538_19, rf_538_22, rf_538_23, rf_538_25, rf_538_27, rf_538_28, rf_538_30, rf_538_31, rf_538_32, rf_538_33, rf_538_34, rf_538_35, rf_538_36, ob_0, ob_1, ob_3, ob_9, ob_10, ob_17, ob_538, ar_2, ar_4, ar_5, ar_6, ar_7, ar_8, ar_11, ar_12, ar_13, ar_14, ar_15, ar_16, ar_116, ar_117, ar_539, ar_540, ar_541, ar_542, ar_543, ar_544, ar_545, ar_546, ar_547, ar_548, ar_549, ar_550, ar_551, ar_552, ar_553, ar_554, ar_555, ar_556, ar_557, ar_558, ex_eq, ex_ite, pm_bk_r, pm_bk_t, ol_nil, ol_one, true_and, and_true, false_and, and_false, reduceIte, Nat.reduceEqDiff, up_at, Nat.add_left_cancel_iff, x0, xL, ix1, ix2, ix3, vp_1', vp_2', vp_3', cl1, cl2, cl3, clL,  g2.1, g2.2, g3, g4, h23, ht, hf, ar_559, vp_0, kc0, lg_same, W_L]
  · simp (decide := true) only [q121_312, q121_313, q121_314, q121_316, q121_317, q121_318, q121_319, q121_320, q121_322, q121_323, q121_324, q121_325, q121_326, q121_329, q121_331, q121_332, q121_333, q121_335, q121_336, q121_337, q121_338, q121_339, q121_341, q121_342, q121_343, q121_344, q121_347, q121_349, q121_350, q121_353, q121_355, q121_358, q121_359, q121_360, q121_362, q121_365, q121_366, q121_367, q121_368, q121_370, q121_371, q121_372, q121_375, q121_376, q121_377, W_1, W_I, W_mk, W_tk, pm_rv, rf_0_0, rf_0_1, rf_0_2, rf_0_3, rf_0_4, rf_0_7, rf_0_8, rf_1_0, rf_1_2, rf_3_0, rf_3_1, rf_3_6, rf_3_7, rf_3_8, rf_9_0, rf_9_1, rf_10_0, rf_10_1, rf_10_6, rf_10_7, rf_10_8, rf_17_0, rf_17_1, rf_538_2, rf_538_6, rf_538_7, rf_538_9, rf_538_11, rf_538_12, rf_538_18, rf_538_19, rf_538_22, rf_538_23, rf_538_25, rf_538_27, rf_538_28, rf_538_30, rf_538_31, rf_538_32, rf_538_33, rf_538_34, rf_538_35, rf_538_36, ob_0, ob_1, ob_3, ob_9, ob_10, ob_17, ob_538, ar_2, ar_4, ar_5, ar_6, ar_7, ar_8, ar_11, ar_12, ar_13, ar_14, ar_15, ar_16, ar_116, ar_117, ar_539, ar_540, ar_541, ar_542, ar_543, ar_544, ar_545, ar_546, ar_547, ar_548, ar_549, ar_550, ar_551, ar_552, ar_553, ar_554, ar_555, ar_556, ar_557, ar_558, ex_eq, ex_ite, pm_bk_r, pm_bk_t, ol_nil, ol_one, true_and, and_true, false_and, and_false, reduceIte, Nat.reduceEqDiff, up_at, Nat.add_left_cancel_iff, x0, xL, ix1, ix2, ix3, vp_1', vp_2', vp_3', cl1, cl2, cl3, clL,  g2.1, g2.2, g3, g4, h23, ht]
theorem l_act (hL : L ≤ 2048) {i : Nat} (hi : i + 4 ≤ L) (h : LI xs L S I) {y5 y6 : Option Value} : ST d xs L 514 i S I k o y5 y6 := by
  obtain ⟨ix1, ix2, ix3, hv, hcl, clL⟩ := ix hL hi
  have vp_1' := hv 1 (by omega)
  have vp_2' := hv 2 (by omega)
  have vp_3' := hv 3 (by omega)
  have cl1 := hcl 1 (by omega)
  have cl2 := hcl 2 (by omega)
  have cl3 := hcl 3 (by omega)
  have x0 := h.2.2.2.1
  have xL := h.2.2.2.2
  have hl := law_e (c1 := fun M q => pm_C (d + 70) 118 [.ref 0, .int (xs (i + 1)), .ref 559] M q) (c2 := fun M q => pm_C (d + 70) 67 [.ref 538, .int (xs (i + 1))] M q) h (ak_act h.1 (i := xs (i + 1))) (h118 (d := d) (k14 (d := d + 61) (k := k) (o := o) h.1 h.2.1) r_act) (fun J hJ => m67 (d := d + 61) h.1 hJ)
  obtain ⟨J1, J2, g1, g2, g5, g3, g4⟩ := hl
  refine ⟨_, J2, kk (o_act S (xs (i + 1))).2 k, oo (o_act S (xs (i + 1))).2 o, some (.int (t_act (o_act S (xs (i + 1))).2)), some (.int (m_val (o_act S (xs (i + 1))).2)), g1, kk_le (r := (o_act S (xs (i + 1))).2), fun q => ?_⟩
  have h23 : ∀ q, (pm_C (d + 70) 23 [.ref 538] (Wm J2 (kk (o_act S (xs (i + 1))).2 k) (oo (o_act S (xs (i + 1))).2 o)) q ↔ q = (.inl (some (.int (t_act (o_act S (xs (i + 1))).2))), Wm J2 (kk (o_act S (xs (i + 1))).2 k) (oo (o_act S (xs (i + 1))).2 o))) := fun q => by
    have := m23 (d := d + 69) (k := kk (o_act S (xs (i + 1))).2 k) (o := oo (o_act S (xs (i + 1))).2 o) (I := J2) (q := q)
    rw [g5] at this
    exact this
  have hfin : t_act (o_act S (xs (i + 1))).2 = 0 → oo (o_act S (xs (i + 1))).2 o = (m_val (o_act S (xs (i + 1))).2).toInt64 := by
    rcases r_act (S := S) (x := xs (i + 1)) with ⟨v, e⟩ | e | e
    · rw [e]; intro _; rfl
    · rw [e]; intro q; exact absurd q (by decide)
    · rw [e]; intro q; exact absurd q (by decide)
  by_cases ht : t_act (o_act S (xs (i + 1))).2 = 0
  · have hf := hfin ht
    rw [ht] at g3 h23
    rw [hf] at g3 g4 h23
    simp (decide := true) only [q121_514, q121_515, q121_516, q121_518, q121_519, q121_520, q121_521, q121_522, q121_525, q121_527, q121_528, q121_529, q121_531, q121_532, q121_533, q121_534, q121_537, q121_539, q121_540, q121_543, q121_545, q121_548, q121_549, q121_550, q121_552, q121_555, q121_556, q121_557, q121_558, q121_560, q121_561, q121_562, q121_565, q121_566, q121_567, W_1, W_I, W_mk, W_tk, pm_rv, rf_0_0, rf_0_1, rf_0_2, rf_0_3, rf_0_4, rf_0_7, rf_0_8, rf_1_0, rf_1_2, rf_3_0, rf_3_1, rf_3_6, rf_3_7, rf_3_8, rf_9_0, rf_9_1, rf_10_0, rf_10_1, rf_10_6, rf_10_7, rf_10_8, rf_17_0, rf_17_1, rf_538_2, rf_538_6, rf_538_7, rf_538_9, rf_538_11, rf_538_12, rf_538_18, rf_538_19, rf_538_22, rf_538_23, rf_538_25, rf_538_27, rf_538_28, rf_538_30, rf_538_31, rf_538_32, rf_538_33, rf_538_34, rf_538_35, rf_538_36, ob_0, ob_1, ob_3, ob_9, ob_10, ob_17, ob_538, ar_2, ar_4, ar_5, ar_6, ar_7, ar_8, ar_11, ar_12, ar_13, ar_14, ar_15, ar_16, ar_116, ar_117, ar_539, ar_540, ar_541, ar_542, ar_543, ar_544, ar_545, ar_546, ar_547, ar_548, ar_549, ar_550, ar_551, ar_552, ar_553, ar_554, ar_555, ar_556, ar_557, ar_558, ex_eq, ex_ite, pm_bk_r, pm_bk_t, ol_nil, ol_one, true_and, and_true, false_and, and_false, reduceIte, Nat.reduceEqDiff, up_at, Nat.add_left_cancel_iff, x0, xL, ix1, ix2, ix3, vp_1', vp_2', vp_3', cl1, cl2, cl3, clL,  g2.1, g2.2, g3, g4, h23, ht, hf, ar_559, vp_0, kc0, lg_same, W_L]
  · simp (decide := true) only [q121_514, q121_515, q121_516, q121_518, q121_519, q121_520, q121_521, q121_522, q121_525, q121_527, q121_528, q121_529, q121_531, q121_532, q121_533, q121_534, q121_537, q121_539, q121_540, q121_543, q121_545, q121_548, q121_549, q121_550, q121_552, q121_555, q121_556, q121_557, q121_558, q121_560, q121_561, q121_562, q121_565, q121_566, q121_567, W_1, W_I, W_mk, W_tk, pm_rv, rf_0_0, rf_0_1, rf_0_2, rf_0_3, rf_0_4, rf_0_7, rf_0_8, rf_1_0, rf_1_2, rf_3_0, rf_3_1, rf_3_6, rf_3_7, rf_3_8, rf_9_0, rf_9_1, rf_10_0, rf_10_1, rf_10_6, rf_10_7, rf_10_8, rf_17_0, rf_17_1, rf_538_2, rf_538_6, rf_538_7, rf_538_9, rf_538_11, rf_538_12, rf_538_18, rf_538_19, rf_538_22, rf_538_23, rf_538_25, rf_538_27, rf_538_28, rf_538_30, rf_538_31, rf_538_32, rf_538_33, rf_538_34, rf_538_35, rf_538_36, ob_0, ob_1, ob_3, ob_9, ob_10, ob_17, ob_538, ar_2, ar_4, ar_5, ar_6, ar_7, ar_8, ar_11, ar_12, ar_13, ar_14, ar_15, ar_16, ar_116, ar_117, ar_539, ar_540, ar_541, ar_542, ar_543, ar_544, ar_545, ar_546, ar_547, ar_548, ar_549, ar_550, ar_551, ar_552, ar_553, ar_554, ar_555, ar_556, ar_557, ar_558, ex_eq, ex_ite, pm_bk_r, pm_bk_t, ol_nil, ol_one, true_and, and_true, false_and, and_false, reduceIte, Nat.reduceEqDiff, up_at, Nat.add_left_cancel_iff, x0, xL, ix1, ix2, ix3, vp_1', vp_2', vp_3', cl1, cl2, cl3, clL,  g2.1, g2.2, g3, g4, h23, ht]
theorem l_counter (hL : L ≤ 2048) {i : Nat} (hi : i + 4 ≤ L) (h : LI xs L S I) {y5 y6 : Option Value} : ST d xs L 669 i S I k o y5 y6 := by
  obtain ⟨ix1, ix2, ix3, hv, hcl, clL⟩ := ix hL hi
  have vp_1' := hv 1 (by omega)
  have vp_2' := hv 2 (by omega)
  have vp_3' := hv 3 (by omega)
  have cl1 := hcl 1 (by omega)
  have cl2 := hcl 2 (by omega)
  have cl3 := hcl 3 (by omega)
  have x0 := h.2.2.2.1
  have xL := h.2.2.2.2
  have hl := law_e (c1 := fun M q => pm_C (d + 70) 119 [.ref 0, .int (xs (i + 1)), .ref 559] M q) (c2 := fun M q => pm_C (d + 70) 71 [.ref 538, .int (xs (i + 1))] M q) h h.1 (h119 (d := d) (k18 (d := d + 68) (k := k) (o := o) h.1 h.2.1) r_cnt) (fun J hJ => m71 (d := d + 69) h.1 hJ)
  obtain ⟨J1, J2, g1, g2, g5, g3, g4⟩ := hl
  refine ⟨_, J2, kk (o_cnt S (xs (i + 1))) k, oo (o_cnt S (xs (i + 1))) o, some (.int (m_thr (o_cnt S (xs (i + 1))))), some (.int (m_val (o_cnt S (xs (i + 1))))), g1, kk_le (r := (o_cnt S (xs (i + 1)))), fun q => ?_⟩
  have h23 : ∀ q, (pm_C (d + 70) 23 [.ref 538] (Wm J2 (kk (o_cnt S (xs (i + 1))) k) (oo (o_cnt S (xs (i + 1))) o)) q ↔ q = (.inl (some (.int (m_thr (o_cnt S (xs (i + 1)))))), Wm J2 (kk (o_cnt S (xs (i + 1))) k) (oo (o_cnt S (xs (i + 1))) o))) := fun q => by
    have := m23 (d := d + 69) (k := kk (o_cnt S (xs (i + 1))) k) (o := oo (o_cnt S (xs (i + 1))) o) (I := J2) (q := q)
    rw [g5] at this
    exact this
  have hfin : m_thr (o_cnt S (xs (i + 1))) = 0 → oo (o_cnt S (xs (i + 1))) o = (m_val (o_cnt S (xs (i + 1)))).toInt64 := by
    rcases r_cnt (S := S) (x := xs (i + 1)) with ⟨v, e⟩ | e
    · rw [e]; intro _; rfl
    · rw [e]; intro q; exact absurd q (by decide)
  by_cases ht : m_thr (o_cnt S (xs (i + 1))) = 0
  · have hf := hfin ht
    rw [ht] at g3 h23
    rw [hf] at g3 g4 h23
    simp (decide := true) only [q121_669, q121_670, q121_671, q121_673, q121_674, q121_675, q121_676, q121_677, q121_680, q121_682, q121_683, q121_684, q121_686, q121_687, q121_688, q121_689, q121_692, q121_694, q121_695, q121_698, q121_700, q121_703, q121_704, q121_705, q121_707, q121_710, q121_711, q121_712, q121_713, q121_715, q121_716, q121_717, q121_720, q121_721, q121_722, W_1, W_I, W_mk, W_tk, pm_rv, rf_0_0, rf_0_1, rf_0_2, rf_0_3, rf_0_4, rf_0_7, rf_0_8, rf_1_0, rf_1_2, rf_3_0, rf_3_1, rf_3_6, rf_3_7, rf_3_8, rf_9_0, rf_9_1, rf_10_0, rf_10_1, rf_10_6, rf_10_7, rf_10_8, rf_17_0, rf_17_1, rf_538_2, rf_538_6, rf_538_7, rf_538_9, rf_538_11, rf_538_12, rf_538_18, rf_538_19, rf_538_22, rf_538_23, rf_538_25, rf_538_27, rf_538_28, rf_538_30, rf_538_31, rf_538_32, rf_538_33, rf_538_34, rf_538_35, rf_538_36, ob_0, ob_1, ob_3, ob_9, ob_10, ob_17, ob_538, ar_2, ar_4, ar_5, ar_6, ar_7, ar_8, ar_11, ar_12, ar_13, ar_14, ar_15, ar_16, ar_116, ar_117, ar_539, ar_540, ar_541, ar_542, ar_543, ar_544, ar_545, ar_546, ar_547, ar_548, ar_549, ar_550, ar_551, ar_552, ar_553, ar_554, ar_555, ar_556, ar_557, ar_558, ex_eq, ex_ite, pm_bk_r, pm_bk_t, ol_nil, ol_one, true_and, and_true, false_and, and_false, reduceIte, Nat.reduceEqDiff, up_at, Nat.add_left_cancel_iff, x0, xL, ix1, ix2, ix3, vp_1', vp_2', vp_3', cl1, cl2, cl3, clL,  g2.1, g2.2, g3, g4, h23, ht, hf, ar_559, vp_0, kc0, lg_same, W_L]
  · simp (decide := true) only [q121_669, q121_670, q121_671, q121_673, q121_674, q121_675, q121_676, q121_677, q121_680, q121_682, q121_683, q121_684, q121_686, q121_687, q121_688, q121_689, q121_692, q121_694, q121_695, q121_698, q121_700, q121_703, q121_704, q121_705, q121_707, q121_710, q121_711, q121_712, q121_713, q121_715, q121_716, q121_717, q121_720, q121_721, q121_722, W_1, W_I, W_mk, W_tk, pm_rv, rf_0_0, rf_0_1, rf_0_2, rf_0_3, rf_0_4, rf_0_7, rf_0_8, rf_1_0, rf_1_2, rf_3_0, rf_3_1, rf_3_6, rf_3_7, rf_3_8, rf_9_0, rf_9_1, rf_10_0, rf_10_1, rf_10_6, rf_10_7, rf_10_8, rf_17_0, rf_17_1, rf_538_2, rf_538_6, rf_538_7, rf_538_9, rf_538_11, rf_538_12, rf_538_18, rf_538_19, rf_538_22, rf_538_23, rf_538_25, rf_538_27, rf_538_28, rf_538_30, rf_538_31, rf_538_32, rf_538_33, rf_538_34, rf_538_35, rf_538_36, ob_0, ob_1, ob_3, ob_9, ob_10, ob_17, ob_538, ar_2, ar_4, ar_5, ar_6, ar_7, ar_8, ar_11, ar_12, ar_13, ar_14, ar_15, ar_16, ar_116, ar_117, ar_539, ar_540, ar_541, ar_542, ar_543, ar_544, ar_545, ar_546, ar_547, ar_548, ar_549, ar_550, ar_551, ar_552, ar_553, ar_554, ar_555, ar_556, ar_557, ar_558, ex_eq, ex_ite, pm_bk_r, pm_bk_t, ol_nil, ol_one, true_and, and_true, false_and, and_false, reduceIte, Nat.reduceEqDiff, up_at, Nat.add_left_cancel_iff, x0, xL, ix1, ix2, ix3, vp_1', vp_2', vp_3', cl1, cl2, cl3, clL,  g2.1, g2.2, g3, g4, h23, ht]
theorem l_solve (hL : L ≤ 2048) {i : Nat} (hi : i + 4 ≤ L) (h : LI xs L S I) {y5 y6 : Option Value} : ST d xs L 750 i S I k o y5 y6 := by
  obtain ⟨ix1, ix2, ix3, hv, hcl, clL⟩ := ix hL hi
  have vp_1' := hv 1 (by omega)
  have vp_2' := hv 2 (by omega)
  have vp_3' := hv 3 (by omega)
  have cl1 := hcl 1 (by omega)
  have cl2 := hcl 2 (by omega)
  have cl3 := hcl 3 (by omega)
  have x0 := h.2.2.2.1
  have xL := h.2.2.2.2
  have hl := law_e (c1 := fun M q => pm_C (d + 70) 120 [.ref 0, .int (xs (i + 1)), .ref 559] M q) (c2 := fun M q => pm_C (d + 70) 77 [.ref 538, .int (xs (i + 1))] M q) h (ak_solve h.1 (b := xs (i + 1))) (h120 (d := d) (k20 (d := d + 51) (k := k) (o := o) h.1 h.2.1) r_solve) (fun J hJ => m77 (d := d + 61) h.1 hJ)
  obtain ⟨J1, J2, g1, g2, g5, g3, g4⟩ := hl
  refine ⟨_, J2, kk (o_solve S (xs (i + 1))).2 k, oo (o_solve S (xs (i + 1))).2 o, some (.int (t_solve (o_solve S (xs (i + 1))).2)), some (.int (m_val (o_solve S (xs (i + 1))).2)), g1, kk_le (r := (o_solve S (xs (i + 1))).2), fun q => ?_⟩
  have h23 : ∀ q, (pm_C (d + 70) 23 [.ref 538] (Wm J2 (kk (o_solve S (xs (i + 1))).2 k) (oo (o_solve S (xs (i + 1))).2 o)) q ↔ q = (.inl (some (.int (t_solve (o_solve S (xs (i + 1))).2))), Wm J2 (kk (o_solve S (xs (i + 1))).2 k) (oo (o_solve S (xs (i + 1))).2 o))) := fun q => by
    have := m23 (d := d + 69) (k := kk (o_solve S (xs (i + 1))).2 k) (o := oo (o_solve S (xs (i + 1))).2 o) (I := J2) (q := q)
    rw [g5] at this
    exact this
  have hfin : t_solve (o_solve S (xs (i + 1))).2 = 0 → oo (o_solve S (xs (i + 1))).2 o = (m_val (o_solve S (xs (i + 1))).2).toInt64 := by
    rcases r_solve (S := S) (x := xs (i + 1)) with ⟨v, e⟩ | e | e | e
    · rw [e]; intro _; rfl
    · rw [e]; intro q; exact absurd q (by decide)
    · rw [e]; intro q; exact absurd q (by decide)
    · rw [e]; intro q; exact absurd q (by decide)
  by_cases ht : t_solve (o_solve S (xs (i + 1))).2 = 0
  · have hf := hfin ht
    rw [ht] at g3 h23
    rw [hf] at g3 g4 h23
    simp (decide := true) only [q121_750, q121_751, q121_752, q121_754, q121_755, q121_756, q121_757, q121_758, q121_761, q121_763, q121_764, q121_765, q121_767, q121_768, q121_769, q121_770, q121_773, q121_775, q121_776, q121_779, q121_781, q121_784, q121_785, q121_786, q121_788, q121_791, q121_792, q121_793, q121_794, q121_796, q121_797, q121_798, q121_801, q121_802, q121_803, W_1, W_I, W_mk, W_tk, pm_rv, rf_0_0, rf_0_1, rf_0_2, rf_0_3, rf_0_4, rf_0_7, rf_0_8, rf_1_0, rf_1_2, rf_3_0, rf_3_1, rf_3_6, rf_3_7, rf_3_8, rf_9_0, rf_9_1, rf_10_0, rf_10_1, rf_10_6, rf_10_7, rf_10_8, rf_17_0, rf_17_1, rf_538_2, rf_538_6, rf_538_7, rf_538_9, rf_538_11, rf_538_12, rf_538_18, rf_538_19, rf_538_22, rf_538_23, rf_538_25, rf_538_27, rf_538_28, rf_538_30, rf_538_31, rf_538_32, rf_538_33, rf_538_34, rf_538_35, rf_538_36, ob_0, ob_1, ob_3, ob_9, ob_10, ob_17, ob_538, ar_2, ar_4, ar_5, ar_6, ar_7, ar_8, ar_11, ar_12, ar_13, ar_14, ar_15, ar_16, ar_116, ar_117, ar_539, ar_540, ar_541, ar_542, ar_543, ar_544, ar_545, ar_546, ar_547, ar_548, ar_549, ar_550, ar_551, ar_552, ar_553, ar_554, ar_555, ar_556, ar_557, ar_558, ex_eq, ex_ite, pm_bk_r, pm_bk_t, ol_nil, ol_one, true_and, and_true, false_and, and_false, reduceIte, Nat.reduceEqDiff, up_at, Nat.add_left_cancel_iff, x0, xL, ix1, ix2, ix3, vp_1', vp_2', vp_3', cl1, cl2, cl3, clL,  g2.1, g2.2, g3, g4, h23, ht, hf, ar_559, vp_0, kc0, lg_same, W_L]
  · simp (decide := true) only [q121_750, q121_751, q121_752, q121_754, q121_755, q121_756, q121_757, q121_758, q121_761, q121_763, q121_764, q121_765, q121_767, q121_768, q121_769, q121_770, q121_773, q121_775, q121_776, q121_779, q121_781, q121_784, q121_785, q121_786, q121_788, q121_791, q121_792, q121_793, q121_794, q121_796, q121_797, q121_798, q121_801, q121_802, q121_803, W_1, W_I, W_mk, W_tk, pm_rv, rf_0_0, rf_0_1, rf_0_2, rf_0_3, rf_0_4, rf_0_7, rf_0_8, rf_1_0, rf_1_2, rf_3_0, rf_3_1, rf_3_6, rf_3_7, rf_3_8, rf_9_0, rf_9_1, rf_10_0, rf_10_1, rf_10_6, rf_10_7, rf_10_8, rf_17_0, rf_17_1, rf_538_2, rf_538_6, rf_538_7, rf_538_9, rf_538_11, rf_538_12, rf_538_18, rf_538_19, rf_538_22, rf_538_23, rf_538_25, rf_538_27, rf_538_28, rf_538_30, rf_538_31, rf_538_32, rf_538_33, rf_538_34, rf_538_35, rf_538_36, ob_0, ob_1, ob_3, ob_9, ob_10, ob_17, ob_538, ar_2, ar_4, ar_5, ar_6, ar_7, ar_8, ar_11, ar_12, ar_13, ar_14, ar_15, ar_16, ar_116, ar_117, ar_539, ar_540, ar_541, ar_542, ar_543, ar_544, ar_545, ar_546, ar_547, ar_548, ar_549, ar_550, ar_551, ar_552, ar_553, ar_554, ar_555, ar_556, ar_557, ar_558, ex_eq, ex_ite, pm_bk_r, pm_bk_t, ol_nil, ol_one, true_and, and_true, false_and, and_false, reduceIte, Nat.reduceEqDiff, up_at, Nat.add_left_cancel_iff, x0, xL, ix1, ix2, ix3, vp_1', vp_2', vp_3', cl1, cl2, cl3, clL,  g2.1, g2.2, g3, g4, h23, ht]
theorem l_code1 (hL : L ≤ 2048) {i : Nat} (hi : i + 4 ≤ L) (h : LI xs L S I) {y5 y6 : Option Value} (hz : ¬ xs (i + 2) = 0) : ST d xs L 228 i S I k o y5 y6 := by
  obtain ⟨ix1, ix2, ix3, hv, hcl, clL⟩ := ix hL hi
  have vp_1' := hv 1 (by omega)
  have vp_2' := hv 2 (by omega)
  have vp_3' := hv 3 (by omega)
  have cl1 := hcl 1 (by omega)
  have cl2 := hcl 2 (by omega)
  have cl3 := hcl 3 (by omega)
  have x0 := h.2.2.2.1
  have xL := h.2.2.2.2
  have hl := law_e (c1 := fun M q => pm_C (d + 70) 115 [.ref 0, .int (xs (i + 1)), .int 1, .ref 559] M q) (c2 := fun M q => pm_C (d + 70) 47 [.ref 538, .int (xs (i + 1)), .int 1] M q) h h.1 (h115 (d := d) (k5 (d := d + 68) (k := k) (o := o) h.1 h.2.1 (a := true)) (r_code (G := S.2.1) (x := xs (i + 1)) (a := true))) (fun J hJ => m47 (d := d + 69) h.1 hJ (a := true))
  obtain ⟨J1, J2, g1, g2, g5, g3, g4⟩ := hl
  refine ⟨_, J2, kk (o_code S.2.1 (xs (i + 1)) true) k, oo (o_code S.2.1 (xs (i + 1)) true) o, some (.int (m_thr (o_code S.2.1 (xs (i + 1)) true))), some (.int (m_val (o_code S.2.1 (xs (i + 1)) true))), g1, kk_le (r := (o_code S.2.1 (xs (i + 1)) true)), fun q => ?_⟩
  have h23 : ∀ q, (pm_C (d + 70) 23 [.ref 538] (Wm J2 (kk (o_code S.2.1 (xs (i + 1)) true) k) (oo (o_code S.2.1 (xs (i + 1)) true) o)) q ↔ q = (.inl (some (.int (m_thr (o_code S.2.1 (xs (i + 1)) true)))), Wm J2 (kk (o_code S.2.1 (xs (i + 1)) true) k) (oo (o_code S.2.1 (xs (i + 1)) true) o))) := fun q => by
    have := m23 (d := d + 69) (k := kk (o_code S.2.1 (xs (i + 1)) true) k) (o := oo (o_code S.2.1 (xs (i + 1)) true) o) (I := J2) (q := q)
    rw [g5] at this
    exact this
  have hfin : m_thr (o_code S.2.1 (xs (i + 1)) true) = 0 → oo (o_code S.2.1 (xs (i + 1)) true) o = (m_val (o_code S.2.1 (xs (i + 1)) true)).toInt64 := by
    rcases r_code (G := S.2.1) (x := xs (i + 1)) (a := true) with ⟨v, e⟩ | e
    · rw [e]; intro _; rfl
    · rw [e]; intro q; exact absurd q (by decide)
  by_cases ht : m_thr (o_code S.2.1 (xs (i + 1)) true) = 0
  · have hf := hfin ht
    rw [ht] at g3 h23
    rw [hf] at g3 g4 h23
    simp (decide := true) only [q121_228, q121_229, q121_230, q121_232, q121_233, q121_234, q121_235, q121_236, q121_238, q121_239, q121_240, q121_241, q121_244, q121_245, q121_248, q121_249, q121_250, q121_253, q121_255, q121_256, q121_257, q121_259, q121_260, q121_261, q121_262, q121_263, q121_265, q121_266, q121_267, q121_268, q121_271, q121_272, q121_275, q121_276, q121_279, q121_281, q121_282, q121_285, q121_287, q121_290, q121_291, q121_292, q121_294, q121_297, q121_298, q121_299, q121_300, q121_302, q121_303, q121_304, q121_307, q121_308, q121_309, W_1, W_I, W_mk, W_tk, pm_rv, rf_0_0, rf_0_1, rf_0_2, rf_0_3, rf_0_4, rf_0_7, rf_0_8, rf_1_0, rf_1_2, rf_3_0, rf_3_1, rf_3_6, rf_3_7, rf_3_8, rf_9_0, rf_9_1, rf_10_0, rf_10_1, rf_10_6, rf_10_7, rf_10_8, rf_17_0, rf_17_1, rf_538_2, rf_538_6, rf_538_7, rf_538_9, rf_538_11, rf_538_12, rf_538_18, rf_538_19, rf_538_22, rf_538_23, rf_538_25, rf_538_27, rf_538_28, rf_538_30, rf_538_31, rf_538_32, rf_538_33, rf_538_34, rf_538_35, rf_538_36, ob_0, ob_1, ob_3, ob_9, ob_10, ob_17, ob_538, ar_2, ar_4, ar_5, ar_6, ar_7, ar_8, ar_11, ar_12, ar_13, ar_14, ar_15, ar_16, ar_116, ar_117, ar_539, ar_540, ar_541, ar_542, ar_543, ar_544, ar_545, ar_546, ar_547, ar_548, ar_549, ar_550, ar_551, ar_552, ar_553, ar_554, ar_555, ar_556, ar_557, ar_558, ex_eq, ex_ite, pm_bk_r, pm_bk_t, ol_nil, ol_one, true_and, and_true, false_and, and_false, reduceIte, Nat.reduceEqDiff, up_at, Nat.add_left_cancel_iff, x0, xL, ix1, ix2, ix3, vp_1', vp_2', vp_3', cl1, cl2, cl3, clL,  g2.1, g2.2, g3, g4, h23, ht, hf, ar_559, vp_0, kc0, lg_same, W_L, hz]
  · simp (decide := true) only [q121_228, q121_229, q121_230, q121_232, q121_233, q121_234, q121_235, q121_236, q121_238, q121_239, q121_240, q121_241, q121_244, q121_245, q121_248, q121_249, q121_250, q121_253, q121_255, q121_256, q121_257, q121_259, q121_260, q121_261, q121_262, q121_263, q121_265, q121_266, q121_267, q121_268, q121_271, q121_272, q121_275, q121_276, q121_279, q121_281, q121_282, q121_285, q121_287, q121_290, q121_291, q121_292, q121_294, q121_297, q121_298, q121_299, q121_300, q121_302, q121_303, q121_304, q121_307, q121_308, q121_309, W_1, W_I, W_mk, W_tk, pm_rv, rf_0_0, rf_0_1, rf_0_2, rf_0_3, rf_0_4, rf_0_7, rf_0_8, rf_1_0, rf_1_2, rf_3_0, rf_3_1, rf_3_6, rf_3_7, rf_3_8, rf_9_0, rf_9_1, rf_10_0, rf_10_1, rf_10_6, rf_10_7, rf_10_8, rf_17_0, rf_17_1, rf_538_2, rf_538_6, rf_538_7, rf_538_9, rf_538_11, rf_538_12, rf_538_18, rf_538_19, rf_538_22, rf_538_23, rf_538_25, rf_538_27, rf_538_28, rf_538_30, rf_538_31, rf_538_32, rf_538_33, rf_538_34, rf_538_35, rf_538_36, ob_0, ob_1, ob_3, ob_9, ob_10, ob_17, ob_538, ar_2, ar_4, ar_5, ar_6, ar_7, ar_8, ar_11, ar_12, ar_13, ar_14, ar_15, ar_16, ar_116, ar_117, ar_539, ar_540, ar_541, ar_542, ar_543, ar_544, ar_545, ar_546, ar_547, ar_548, ar_549, ar_550, ar_551, ar_552, ar_553, ar_554, ar_555, ar_556, ar_557, ar_558, ex_eq, ex_ite, pm_bk_r, pm_bk_t, ol_nil, ol_one, true_and, and_true, false_and, and_false, reduceIte, Nat.reduceEqDiff, up_at, Nat.add_left_cancel_iff, x0, xL, ix1, ix2, ix3, vp_1', vp_2', vp_3', cl1, cl2, cl3, clL,  g2.1, g2.2, g3, g4, h23, ht, hz]
theorem l_code0 (hL : L ≤ 2048) {i : Nat} (hi : i + 4 ≤ L) (h : LI xs L S I) {y5 y6 : Option Value} (hz : xs (i + 2) = 0) : ST d xs L 228 i S I k o y5 y6 := by
  obtain ⟨ix1, ix2, ix3, hv, hcl, clL⟩ := ix hL hi
  have vp_1' := hv 1 (by omega)
  have vp_2' := hv 2 (by omega)
  have vp_3' := hv 3 (by omega)
  have cl1 := hcl 1 (by omega)
  have cl2 := hcl 2 (by omega)
  have cl3 := hcl 3 (by omega)
  have x0 := h.2.2.2.1
  have xL := h.2.2.2.2
  have hl := law_e (c1 := fun M q => pm_C (d + 70) 115 [.ref 0, .int (xs (i + 1)), .int 0, .ref 559] M q) (c2 := fun M q => pm_C (d + 70) 47 [.ref 538, .int (xs (i + 1)), .int 0] M q) h h.1 (h115 (d := d) (k5 (d := d + 68) (k := k) (o := o) h.1 h.2.1 (a := false)) (r_code (G := S.2.1) (x := xs (i + 1)) (a := false))) (fun J hJ => m47 (d := d + 69) h.1 hJ (a := false))
  obtain ⟨J1, J2, g1, g2, g5, g3, g4⟩ := hl
  refine ⟨_, J2, kk (o_code S.2.1 (xs (i + 1)) false) k, oo (o_code S.2.1 (xs (i + 1)) false) o, some (.int (m_thr (o_code S.2.1 (xs (i + 1)) false))), some (.int (m_val (o_code S.2.1 (xs (i + 1)) false))), g1, kk_le (r := (o_code S.2.1 (xs (i + 1)) false)), fun q => ?_⟩
  have h23 : ∀ q, (pm_C (d + 70) 23 [.ref 538] (Wm J2 (kk (o_code S.2.1 (xs (i + 1)) false) k) (oo (o_code S.2.1 (xs (i + 1)) false) o)) q ↔ q = (.inl (some (.int (m_thr (o_code S.2.1 (xs (i + 1)) false)))), Wm J2 (kk (o_code S.2.1 (xs (i + 1)) false) k) (oo (o_code S.2.1 (xs (i + 1)) false) o))) := fun q => by
    have := m23 (d := d + 69) (k := kk (o_code S.2.1 (xs (i + 1)) false) k) (o := oo (o_code S.2.1 (xs (i + 1)) false) o) (I := J2) (q := q)
    rw [g5] at this
    exact this
  have hfin : m_thr (o_code S.2.1 (xs (i + 1)) false) = 0 → oo (o_code S.2.1 (xs (i + 1)) false) o = (m_val (o_code S.2.1 (xs (i + 1)) false)).toInt64 := by
    rcases r_code (G := S.2.1) (x := xs (i + 1)) (a := false) with ⟨v, e⟩ | e
    · rw [e]; intro _; rfl
    · rw [e]; intro q; exact absurd q (by decide)
  by_cases ht : m_thr (o_code S.2.1 (xs (i + 1)) false) = 0
  · have hf := hfin ht
    rw [ht] at g3 h23
    rw [hf] at g3 g4 h23
    simp (decide := true) only [q121_228, q121_229, q121_230, q121_232, q121_233, q121_234, q121_235, q121_236, q121_238, q121_239, q121_240, q121_241, q121_244, q121_245, q121_248, q121_249, q121_250, q121_253, q121_255, q121_256, q121_257, q121_259, q121_260, q121_261, q121_262, q121_263, q121_265, q121_266, q121_267, q121_268, q121_271, q121_272, q121_275, q121_276, q121_279, q121_281, q121_282, q121_285, q121_287, q121_290, q121_291, q121_292, q121_294, q121_297, q121_298, q121_299, q121_300, q121_302, q121_303, q121_304, q121_307, q121_308, q121_309, W_1, W_I, W_mk, W_tk, pm_rv, rf_0_0, rf_0_1, rf_0_2, rf_0_3, rf_0_4, rf_0_7, rf_0_8, rf_1_0, rf_1_2, rf_3_0, rf_3_1, rf_3_6, rf_3_7, rf_3_8, rf_9_0, rf_9_1, rf_10_0, rf_10_1, rf_10_6, rf_10_7, rf_10_8, rf_17_0, rf_17_1, rf_538_2, rf_538_6, rf_538_7, rf_538_9, rf_538_11, rf_538_12, rf_538_18, rf_538_19, rf_538_22, rf_538_23, rf_538_25, rf_538_27, rf_538_28, rf_538_30, rf_538_31, rf_538_32, rf_538_33, rf_538_34, rf_538_35, rf_538_36, ob_0, ob_1, ob_3, ob_9, ob_10, ob_17, ob_538, ar_2, ar_4, ar_5, ar_6, ar_7, ar_8, ar_11, ar_12, ar_13, ar_14, ar_15, ar_16, ar_116, ar_117, ar_539, ar_540, ar_541, ar_542, ar_543, ar_544, ar_545, ar_546, ar_547, ar_548, ar_549, ar_550, ar_551, ar_552, ar_553, ar_554, ar_555, ar_556, ar_557, ar_558, ex_eq, ex_ite, pm_bk_r, pm_bk_t, ol_nil, ol_one, true_and, and_true, false_and, and_false, reduceIte, Nat.reduceEqDiff, up_at, Nat.add_left_cancel_iff, x0, xL, ix1, ix2, ix3, vp_1', vp_2', vp_3', cl1, cl2, cl3, clL,  g2.1, g2.2, g3, g4, h23, ht, hf, ar_559, vp_0, kc0, lg_same, W_L, hz]
  · simp (decide := true) only [q121_228, q121_229, q121_230, q121_232, q121_233, q121_234, q121_235, q121_236, q121_238, q121_239, q121_240, q121_241, q121_244, q121_245, q121_248, q121_249, q121_250, q121_253, q121_255, q121_256, q121_257, q121_259, q121_260, q121_261, q121_262, q121_263, q121_265, q121_266, q121_267, q121_268, q121_271, q121_272, q121_275, q121_276, q121_279, q121_281, q121_282, q121_285, q121_287, q121_290, q121_291, q121_292, q121_294, q121_297, q121_298, q121_299, q121_300, q121_302, q121_303, q121_304, q121_307, q121_308, q121_309, W_1, W_I, W_mk, W_tk, pm_rv, rf_0_0, rf_0_1, rf_0_2, rf_0_3, rf_0_4, rf_0_7, rf_0_8, rf_1_0, rf_1_2, rf_3_0, rf_3_1, rf_3_6, rf_3_7, rf_3_8, rf_9_0, rf_9_1, rf_10_0, rf_10_1, rf_10_6, rf_10_7, rf_10_8, rf_17_0, rf_17_1, rf_538_2, rf_538_6, rf_538_7, rf_538_9, rf_538_11, rf_538_12, rf_538_18, rf_538_19, rf_538_22, rf_538_23, rf_538_25, rf_538_27, rf_538_28, rf_538_30, rf_538_31, rf_538_32, rf_538_33, rf_538_34, rf_538_35, rf_538_36, ob_0, ob_1, ob_3, ob_9, ob_10, ob_17, ob_538, ar_2, ar_4, ar_5, ar_6, ar_7, ar_8, ar_11, ar_12, ar_13, ar_14, ar_15, ar_16, ar_116, ar_117, ar_539, ar_540, ar_541, ar_542, ar_543, ar_544, ar_545, ar_546, ar_547, ar_548, ar_549, ar_550, ar_551, ar_552, ar_553, ar_554, ar_555, ar_556, ar_557, ar_558, ex_eq, ex_ite, pm_bk_r, pm_bk_t, ol_nil, ol_one, true_and, and_true, false_and, and_false, reduceIte, Nat.reduceEqDiff, up_at, Nat.add_left_cancel_iff, x0, xL, ix1, ix2, ix3, vp_1', vp_2', vp_3', cl1, cl2, cl3, clL,  g2.1, g2.2, g3, g4, h23, ht, hz]
theorem l_code (hL : L ≤ 2048) {i : Nat} (hi : i + 4 ≤ L) (h : LI xs L S I) {y5 y6 : Option Value} : ST d xs L 228 i S I k o y5 y6 := by
  by_cases hz : xs (i + 2) = 0
  · exact l_code0 hL hi h hz
  · exact l_code1 hL hi h hz
theorem l_move1 (hL : L ≤ 2048) {i : Nat} (hi : i + 4 ≤ L) (h : LI xs L S I) {y5 y6 : Option Value} (hz : ¬ xs (i + 2) = 0) : ST d xs L 430 i S I k o y5 y6 := by
  obtain ⟨ix1, ix2, ix3, hv, hcl, clL⟩ := ix hL hi
  have vp_1' := hv 1 (by omega)
  have vp_2' := hv 2 (by omega)
  have vp_3' := hv 3 (by omega)
  have cl1 := hcl 1 (by omega)
  have cl2 := hcl 2 (by omega)
  have cl3 := hcl 3 (by omega)
  have x0 := h.2.2.2.1
  have xL := h.2.2.2.2
  have hl := law_e (c1 := fun M q => pm_C (d + 70) 117 [.ref 0, .int (xs (i + 1)), .int 1, .ref 559] M q) (c2 := fun M q => pm_C (d + 70) 66 [.ref 538, .int (xs (i + 1)), .int 1] M q) h h.1 (h117 (d := d) (k10 (d := d + 61) (k := k) (o := o) h.1 h.2.1 (c := true)) (r_move (S := S) (x := xs (i + 1)) (a := true))) (fun J hJ => m66 (d := d + 61) h.1 hJ (c := true))
  obtain ⟨J1, J2, g1, g2, g5, g3, g4⟩ := hl
  refine ⟨_, J2, kk (o_move S (xs (i + 1)) true) k, oo (o_move S (xs (i + 1)) true) o, some (.int (m_thr (o_move S (xs (i + 1)) true))), some (.int (m_val (o_move S (xs (i + 1)) true))), g1, kk_le (r := (o_move S (xs (i + 1)) true)), fun q => ?_⟩
  have h23 : ∀ q, (pm_C (d + 70) 23 [.ref 538] (Wm J2 (kk (o_move S (xs (i + 1)) true) k) (oo (o_move S (xs (i + 1)) true) o)) q ↔ q = (.inl (some (.int (m_thr (o_move S (xs (i + 1)) true)))), Wm J2 (kk (o_move S (xs (i + 1)) true) k) (oo (o_move S (xs (i + 1)) true) o))) := fun q => by
    have := m23 (d := d + 69) (k := kk (o_move S (xs (i + 1)) true) k) (o := oo (o_move S (xs (i + 1)) true) o) (I := J2) (q := q)
    rw [g5] at this
    exact this
  have hfin : m_thr (o_move S (xs (i + 1)) true) = 0 → oo (o_move S (xs (i + 1)) true) o = (m_val (o_move S (xs (i + 1)) true)).toInt64 := by
    rcases r_move (S := S) (x := xs (i + 1)) (a := true) with ⟨v, e⟩ | e
    · rw [e]; intro _; rfl
    · rw [e]; intro q; exact absurd q (by decide)
  by_cases ht : m_thr (o_move S (xs (i + 1)) true) = 0
  · have hf := hfin ht
    rw [ht] at g3 h23
    rw [hf] at g3 g4 h23
    simp (decide := true) only [q121_430, q121_431, q121_432, q121_434, q121_435, q121_436, q121_437, q121_438, q121_440, q121_441, q121_442, q121_443, q121_446, q121_447, q121_450, q121_451, q121_452, q121_455, q121_457, q121_458, q121_459, q121_461, q121_462, q121_463, q121_464, q121_465, q121_467, q121_468, q121_469, q121_470, q121_473, q121_474, q121_477, q121_478, q121_481, q121_483, q121_484, q121_487, q121_489, q121_492, q121_493, q121_494, q121_496, q121_499, q121_500, q121_501, q121_502, q121_504, q121_505, q121_506, q121_509, q121_510, q121_511, W_1, W_I, W_mk, W_tk, pm_rv, rf_0_0, rf_0_1, rf_0_2, rf_0_3, rf_0_4, rf_0_7, rf_0_8, rf_1_0, rf_1_2, rf_3_0, rf_3_1, rf_3_6, rf_3_7, rf_3_8, rf_9_0, rf_9_1, rf_10_0, rf_10_1, rf_10_6, rf_10_7, rf_10_8, rf_17_0, rf_17_1, rf_538_2, rf_538_6, rf_538_7, rf_538_9, rf_538_11, rf_538_12, rf_538_18, rf_538_19, rf_538_22, rf_538_23, rf_538_25, rf_538_27, rf_538_28, rf_538_30, rf_538_31, rf_538_32, rf_538_33, rf_538_34, rf_538_35, rf_538_36, ob_0, ob_1, ob_3, ob_9, ob_10, ob_17, ob_538, ar_2, ar_4, ar_5, ar_6, ar_7, ar_8, ar_11, ar_12, ar_13, ar_14, ar_15, ar_16, ar_116, ar_117, ar_539, ar_540, ar_541, ar_542, ar_543, ar_544, ar_545, ar_546, ar_547, ar_548, ar_549, ar_550, ar_551, ar_552, ar_553, ar_554, ar_555, ar_556, ar_557, ar_558, ex_eq, ex_ite, pm_bk_r, pm_bk_t, ol_nil, ol_one, true_and, and_true, false_and, and_false, reduceIte, Nat.reduceEqDiff, up_at, Nat.add_left_cancel_iff, x0, xL, ix1, ix2, ix3, vp_1', vp_2', vp_3', cl1, cl2, cl3, clL,  g2.1, g2.2, g3, g4, h23, ht, hf, ar_559, vp_0, kc0, lg_same, W_L, hz]
  · simp (decide := true) only [q121_430, q121_431, q121_432, q121_434, q121_435, q121_436, q121_437, q121_438, q121_440, q121_441, q121_442, q121_443, q121_446, q121_447, q121_450, q121_451, q121_452, q121_455, q121_457, q121_458, q121_459, q121_461, q121_462, q121_463, q121_464, q121_465, q121_467, q121_468, q121_469, q121_470, q121_473, q121_474, q121_477, q121_478, q121_481, q121_483, q121_484, q121_487, q121_489, q121_492, q121_493, q121_494, q121_496, q121_499, q121_500, q121_501, q121_502, q121_504, q121_505, q121_506, q121_509, q121_510, q121_511, W_1, W_I, W_mk, W_tk, pm_rv, rf_0_0, rf_0_1, rf_0_2, rf_0_3, rf_0_4, rf_0_7, rf_0_8, rf_1_0, rf_1_2, rf_3_0, rf_3_1, rf_3_6, rf_3_7, rf_3_8, rf_9_0, rf_9_1, rf_10_0, rf_10_1, rf_10_6, rf_10_7, rf_10_8, rf_17_0, rf_17_1, rf_538_2, rf_538_6, rf_538_7, rf_538_9, rf_538_11, rf_538_12, rf_538_18, rf_538_19, rf_538_22, rf_538_23, rf_538_25, rf_538_27, rf_538_28, rf_538_30, rf_538_31, rf_538_32, rf_538_33, rf_538_34, rf_538_35, rf_538_36, ob_0, ob_1, ob_3, ob_9, ob_10, ob_17, ob_538, ar_2, ar_4, ar_5, ar_6, ar_7, ar_8, ar_11, ar_12, ar_13, ar_14, ar_15, ar_16, ar_116, ar_117, ar_539, ar_540, ar_541, ar_542, ar_543, ar_544, ar_545, ar_546, ar_547, ar_548, ar_549, ar_550, ar_551, ar_552, ar_553, ar_554, ar_555, ar_556, ar_557, ar_558, ex_eq, ex_ite, pm_bk_r, pm_bk_t, ol_nil, ol_one, true_and, and_true, false_and, and_false, reduceIte, Nat.reduceEqDiff, up_at, Nat.add_left_cancel_iff, x0, xL, ix1, ix2, ix3, vp_1', vp_2', vp_3', cl1, cl2, cl3, clL,  g2.1, g2.2, g3, g4, h23, ht, hz]
theorem l_move0 (hL : L ≤ 2048) {i : Nat} (hi : i + 4 ≤ L) (h : LI xs L S I) {y5 y6 : Option Value} (hz : xs (i + 2) = 0) : ST d xs L 430 i S I k o y5 y6 := by
  obtain ⟨ix1, ix2, ix3, hv, hcl, clL⟩ := ix hL hi
  have vp_1' := hv 1 (by omega)
  have vp_2' := hv 2 (by omega)
  have vp_3' := hv 3 (by omega)
  have cl1 := hcl 1 (by omega)
  have cl2 := hcl 2 (by omega)
  have cl3 := hcl 3 (by omega)
  have x0 := h.2.2.2.1
  have xL := h.2.2.2.2
  have hl := law_e (c1 := fun M q => pm_C (d + 70) 117 [.ref 0, .int (xs (i + 1)), .int 0, .ref 559] M q) (c2 := fun M q => pm_C (d + 70) 66 [.ref 538, .int (xs (i + 1)), .int 0] M q) h h.1 (h117 (d := d) (k10 (d := d + 61) (k := k) (o := o) h.1 h.2.1 (c := false)) (r_move (S := S) (x := xs (i + 1)) (a := false))) (fun J hJ => m66 (d := d + 61) h.1 hJ (c := false))
  obtain ⟨J1, J2, g1, g2, g5, g3, g4⟩ := hl
  refine ⟨_, J2, kk (o_move S (xs (i + 1)) false) k, oo (o_move S (xs (i + 1)) false) o, some (.int (m_thr (o_move S (xs (i + 1)) false))), some (.int (m_val (o_move S (xs (i + 1)) false))), g1, kk_le (r := (o_move S (xs (i + 1)) false)), fun q => ?_⟩
  have h23 : ∀ q, (pm_C (d + 70) 23 [.ref 538] (Wm J2 (kk (o_move S (xs (i + 1)) false) k) (oo (o_move S (xs (i + 1)) false) o)) q ↔ q = (.inl (some (.int (m_thr (o_move S (xs (i + 1)) false)))), Wm J2 (kk (o_move S (xs (i + 1)) false) k) (oo (o_move S (xs (i + 1)) false) o))) := fun q => by
    have := m23 (d := d + 69) (k := kk (o_move S (xs (i + 1)) false) k) (o := oo (o_move S (xs (i + 1)) false) o) (I := J2) (q := q)
    rw [g5] at this
    exact this
  have hfin : m_thr (o_move S (xs (i + 1)) false) = 0 → oo (o_move S (xs (i + 1)) false) o = (m_val (o_move S (xs (i + 1)) false)).toInt64 := by
    rcases r_move (S := S) (x := xs (i + 1)) (a := false) with ⟨v, e⟩ | e
    · rw [e]; intro _; rfl
    · rw [e]; intro q; exact absurd q (by decide)
  by_cases ht : m_thr (o_move S (xs (i + 1)) false) = 0
  · have hf := hfin ht
    rw [ht] at g3 h23
    rw [hf] at g3 g4 h23
    simp (decide := true) only [q121_430, q121_431, q121_432, q121_434, q121_435, q121_436, q121_437, q121_438, q121_440, q121_441, q121_442, q121_443, q121_446, q121_447, q121_450, q121_451, q121_452, q121_455, q121_457, q121_458, q121_459, q121_461, q121_462, q121_463, q121_464, q121_465, q121_467, q121_468, q121_469, q121_470, q121_473, q121_474, q121_477, q121_478, q121_481, q121_483, q121_484, q121_487, q121_489, q121_492, q121_493, q121_494, q121_496, q121_499, q121_500, q121_501, q121_502, q121_504, q121_505, q121_506, q121_509, q121_510, q121_511, W_1, W_I, W_mk, W_tk, pm_rv, rf_0_0, rf_0_1, rf_0_2, rf_0_3, rf_0_4, rf_0_7, rf_0_8, rf_1_0, rf_1_2, rf_3_0, rf_3_1, rf_3_6, rf_3_7, rf_3_8, rf_9_0, rf_9_1, rf_10_0, rf_10_1, rf_10_6, rf_10_7, rf_10_8, rf_17_0, rf_17_1, rf_538_2, rf_538_6, rf_538_7, rf_538_9, rf_538_11, rf_538_12, rf_538_18, rf_538_19, rf_538_22, rf_538_23, rf_538_25, rf_538_27, rf_538_28, rf_538_30, rf_538_31, rf_538_32, rf_538_33, rf_538_34, rf_538_35, rf_538_36, ob_0, ob_1, ob_3, ob_9, ob_10, ob_17, ob_538, ar_2, ar_4, ar_5, ar_6, ar_7, ar_8, ar_11, ar_12, ar_13, ar_14, ar_15, ar_16, ar_116, ar_117, ar_539, ar_540, ar_541, ar_542, ar_543, ar_544, ar_545, ar_546, ar_547, ar_548, ar_549, ar_550, ar_551, ar_552, ar_553, ar_554, ar_555, ar_556, ar_557, ar_558, ex_eq, ex_ite, pm_bk_r, pm_bk_t, ol_nil, ol_one, true_and, and_true, false_and, and_false, reduceIte, Nat.reduceEqDiff, up_at, Nat.add_left_cancel_iff, x0, xL, ix1, ix2, ix3, vp_1', vp_2', vp_3', cl1, cl2, cl3, clL,  g2.1, g2.2, g3, g4, h23, ht, hf, ar_559, vp_0, kc0, lg_same, W_L, hz]
  · simp (decide := true) only [q121_430, q121_431, q121_432, q121_434, q121_435, q121_436, q121_437, q121_438, q121_440, q121_441, q121_442, q121_443, q121_446, q121_447, q121_450, q121_451, q121_452, q121_455, q121_457, q121_458, q121_459, q121_461, q121_462, q121_463, q121_464, q121_465, q121_467, q121_468, q121_469, q121_470, q121_473, q121_474, q121_477, q121_478, q121_481, q121_483, q121_484, q121_487, q121_489, q121_492, q121_493, q121_494, q121_496, q121_499, q121_500, q121_501, q121_502, q121_504, q121_505, q121_506, q121_509, q121_510, q121_511, W_1, W_I, W_mk, W_tk, pm_rv, rf_0_0, rf_0_1, rf_0_2, rf_0_3, rf_0_4, rf_0_7, rf_0_8, rf_1_0, rf_1_2, rf_3_0, rf_3_1, rf_3_6, rf_3_7, rf_3_8, rf_9_0, rf_9_1, rf_10_0, rf_10_1, rf_10_6, rf_10_7, rf_10_8, rf_17_0, rf_17_1, rf_538_2, rf_538_6, rf_538_7, rf_538_9, rf_538_11, rf_538_12, rf_538_18, rf_538_19, rf_538_22, rf_538_23, rf_538_25, rf_538_27, rf_538_28, rf_538_30, rf_538_31, rf_538_32, rf_538_33, rf_538_34, rf_538_35, rf_538_36, ob_0, ob_1, ob_3, ob_9, ob_10, ob_17, ob_538, ar_2, ar_4, ar_5, ar_6, ar_7, ar_8, ar_11, ar_12, ar_13, ar_14, ar_15, ar_16, ar_116, ar_117, ar_539, ar_540, ar_541, ar_542, ar_543, ar_544, ar_545, ar_546, ar_547, ar_548, ar_549, ar_550, ar_551, ar_552, ar_553, ar_554, ar_555, ar_556, ar_557, ar_558, ex_eq, ex_ite, pm_bk_r, pm_bk_t, ol_nil, ol_one, true_and, and_true, false_and, and_false, reduceIte, Nat.reduceEqDiff, up_at, Nat.add_left_cancel_iff, x0, xL, ix1, ix2, ix3, vp_1', vp_2', vp_3', cl1, cl2, cl3, clL,  g2.1, g2.2, g3, g4, h23, ht, hz]
theorem l_move (hL : L ≤ 2048) {i : Nat} (hi : i + 4 ≤ L) (h : LI xs L S I) {y5 y6 : Option Value} : ST d xs L 430 i S I k o y5 y6 := by
  by_cases hz : xs (i + 2) = 0
  · exact l_move0 hL hi h hz
  · exact l_move1 hL hi h hz
end LAW
