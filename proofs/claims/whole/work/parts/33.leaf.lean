/-! THE CLASS: leaves -/
section LF
variable {d k : Nat} {o : Int64} {I : Nat → Nat → Int32} {q : pm_Res}
theorem c12 {x : Int32} {M : pm_Mem} : pm_C (d + 1) 12 [.int x] M q ↔ q = (.inl (some (.int (x / 25))), M) := by
  rw [n12]
  simp only [q12_0, q12_1, q12_3, q12_4]
  simp
theorem c13 {x : Int32} {M : pm_Mem} : pm_C (d + 1) 13 [.int x] M q ↔ q = (.inl (some (.int (x - x / 25 * 25 - 1))), M) := by
  rw [n13]
  simp only [q13_0, q13_1, q13_3, q13_4, q13_5, q13_6]
  simp
theorem c3 : pm_C (d + 1) 3 [.ref 0] (Wm I k o) q ↔ q = (.inl none, Wm (pm_up I 1 1 0) k o) := by
  rw [n3]
  simp only [q3_0, q3_1, q3_4, q3_5, q3_8, W_1, W_I, W_mk, W_tk, pm_rv, rf_0_0, rf_0_1, rf_0_2, rf_0_3, rf_0_4, rf_0_7, rf_0_8, rf_1_0, rf_1_2, rf_3_0, rf_3_1, rf_3_6, rf_3_7, rf_3_8, rf_9_0, rf_9_1, rf_10_0, rf_10_1, rf_10_6, rf_10_7, rf_10_8, rf_17_0, rf_17_1, rf_538_2, rf_538_6, rf_538_7, rf_538_9, rf_538_11, rf_538_12, rf_538_18, rf_538_19, rf_538_22, rf_538_23, rf_538_25, rf_538_27, rf_538_28, rf_538_30, rf_538_31, rf_538_32, rf_538_33, rf_538_34, rf_538_35, rf_538_36, ob_0, ob_1, ob_3, ob_9, ob_10, ob_17, ob_538, ar_2, ar_4, ar_5, ar_6, ar_7, ar_8, ar_11, ar_12, ar_13, ar_14, ar_15, ar_16, ar_116, ar_117, ar_539, ar_540, ar_541, ar_542, ar_543, ar_544, ar_545, ar_546, ar_547, ar_548, ar_549, ar_550, ar_551, ar_552, ar_553, ar_554, ar_555, ar_556, ar_557, ar_558, true_and]
theorem c21 : pm_C (d + 1) 21 [.ref 0] (Wm I k o) q ↔ q = (.inl (some (.int (I 0 9))), Wm I k o) := by
  rw [n21]
  simp only [q21_0, q21_1, q21_4, W_1, W_I, W_mk, W_tk, pm_rv, rf_0_0, rf_0_1, rf_0_2, rf_0_3, rf_0_4, rf_0_7, rf_0_8, rf_1_0, rf_1_2, rf_3_0, rf_3_1, rf_3_6, rf_3_7, rf_3_8, rf_9_0, rf_9_1, rf_10_0, rf_10_1, rf_10_6, rf_10_7, rf_10_8, rf_17_0, rf_17_1, rf_538_2, rf_538_6, rf_538_7, rf_538_9, rf_538_11, rf_538_12, rf_538_18, rf_538_19, rf_538_22, rf_538_23, rf_538_25, rf_538_27, rf_538_28, rf_538_30, rf_538_31, rf_538_32, rf_538_33, rf_538_34, rf_538_35, rf_538_36, ob_0, ob_1, ob_3, ob_9, ob_10, ob_17, ob_538, ar_2, ar_4, ar_5, ar_6, ar_7, ar_8, ar_11, ar_12, ar_13, ar_14, ar_15, ar_16, ar_116, ar_117, ar_539, ar_540, ar_541, ar_542, ar_543, ar_544, ar_545, ar_546, ar_547, ar_548, ar_549, ar_550, ar_551, ar_552, ar_553, ar_554, ar_555, ar_556, ar_557, ar_558, true_and]
theorem c80 {g x y : Int32} {n : Nat} (hn : I 3 2 = nI n) (hb : n < 100000) : pm_C (d + 1) 80 [.ref 3, .int x, .int y] (Wm I k o) q ↔ q = (.inl none, Wm (pm_up (if n < 160 then pm_up (pm_up I 4 n x) 5 n y else I) 3 2 (nI (n + 1))) k o) := by
  rw [n80]
  simp only [q80_0, q80_1, q80_4, q80_7, q80_10, q80_11, q80_14, q80_15, q80_18, q80_19, q80_20, q80_21, q80_24, q80_25, q80_28, q80_29, q80_30, q80_31, q80_32, q80_35, q80_36, q80_37, q80_40, W_1, W_I, W_mk, W_tk, pm_rv, rf_0_0, rf_0_1, rf_0_2, rf_0_3, rf_0_4, rf_0_7, rf_0_8, rf_1_0, rf_1_2, rf_3_0, rf_3_1, rf_3_6, rf_3_7, rf_3_8, rf_9_0, rf_9_1, rf_10_0, rf_10_1, rf_10_6, rf_10_7, rf_10_8, rf_17_0, rf_17_1, rf_538_2, rf_538_6, rf_538_7, rf_538_9, rf_538_11, rf_538_12, rf_538_18, rf_538_19, rf_538_22, rf_538_23, rf_538_25, rf_538_27, rf_538_28, rf_538_30, rf_538_31, rf_538_32, rf_538_33, rf_538_34, rf_538_35, rf_538_36, ob_0, ob_1, ob_3, ob_9, ob_10, ob_17, ob_538, ar_2, ar_4, ar_5, ar_6, ar_7, ar_8, ar_11, ar_12, ar_13, ar_14, ar_15, ar_16, ar_116, ar_117, ar_539, ar_540, ar_541, ar_542, ar_543, ar_544, ar_545, ar_546, ar_547, ar_548, ar_549, ar_550, ar_551, ar_552, ar_553, ar_554, ar_555, ar_556, ar_557, ar_558, true_and, hn]
  sorry
end LF
