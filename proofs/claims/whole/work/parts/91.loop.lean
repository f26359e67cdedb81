/-! THE LAW'S LOOP -/
section LOOP
variable {d k : Nat} {o : Int64} {xs : Nat → Int32} {L : Nat} {S S' : AS} {I : Nat → Nat → Int32}
theorem ls_lt {i L : Nat} (hL : L ≤ 2048) (hi : i ≤ 3000) : (nI L - 4 < nI i) ↔ L < i + 4 := by
  have e4 : (4 : Int32).toInt = 4 := rfl
  have h : (nI L - 4).toInt = (L : Int) - 4 := by
    rw [Int32.toInt_sub, sm_ti (by omega), e4, Int.bmod_eq_of_le (by omega) (by omega)]
  rw [Int32.lt_iff_toInt_lt, h, sm_ti (by omega)]
  omega
theorem l_none {i : Nat} (h : LI xs L S I) {y5 y6 : Option Value} : ST d xs L 819 i S I k o y5 y6 := ⟨S, I, k, o, y5, y6, h, Nat.le_succ k, fun _ => Iff.rfl⟩
theorem l_pick (hL : L ≤ 2048) {i : Nat} (hi : i + 4 ≤ L) (h : LI xs L S I) {y5 y6 : Option Value} {v : Int32} : ∃ p, ST d xs L p i S I k o y5 y6 ∧ ∀ q, (pm_R (d + 70) 121 39 (ll i y5 y6) [.int v] (Wm I k o) q ↔ pm_R (d + 70) 121 p (ll i y5 y6) [] (Wm I k o) q) := by
  by_cases h0 : v = 0
  · exact ⟨116, l_type hL hi h, fun q => by rw [q121_39, if_pos h0]⟩
  by_cases h1 : v = 1
  · exact ⟨173, l_wipe h, fun q => by rw [q121_39, if_neg h0, if_pos h1]⟩
  by_cases h2 : v = 2
  · exact ⟨184, l_compile hL hi h, fun q => by rw [q121_39, if_neg h0, if_neg h1, if_pos h2]⟩
  by_cases h3 : v = 3
  · exact ⟨228, l_code hL hi h, fun q => by rw [q121_39, if_neg h0, if_neg h1, if_neg h2, if_pos h3]⟩
  by_cases h4 : v = 4
  · exact ⟨312, l_deal hL hi h, fun q => by rw [q121_39, if_neg h0, if_neg h1, if_neg h2, if_neg h3, if_pos h4]⟩
  by_cases h5 : v = 5
  · exact ⟨380, l_put hL hi h, fun q => by rw [q121_39, if_neg h0, if_neg h1, if_neg h2, if_neg h3, if_neg h4, if_pos h5]⟩
  by_cases h6 : v = 6
  · exact ⟨417, l_moves hL hi h, fun q => by rw [q121_39, if_neg h0, if_neg h1, if_neg h2, if_neg h3, if_neg h4, if_neg h5, if_pos h6]⟩
  by_cases h7 : v = 7
  · exact ⟨430, l_move hL hi h, fun q => by rw [q121_39, if_neg h0, if_neg h1, if_neg h2, if_neg h3, if_neg h4, if_neg h5, if_neg h6, if_pos h7]⟩
  by_cases h8 : v = 8
  · exact ⟨514, l_act hL hi h, fun q => by rw [q121_39, if_neg h0, if_neg h1, if_neg h2, if_neg h3, if_neg h4, if_neg h5, if_neg h6, if_neg h7, if_pos h8]⟩
  by_cases h9 : v = 9
  · exact ⟨570, l_undo hL hi h, fun q => by rw [q121_39, if_neg h0, if_neg h1, if_neg h2, if_neg h3, if_neg h4, if_neg h5, if_neg h6, if_neg h7, if_neg h8, if_pos h9]⟩
  by_cases h10 : v = 10
  · exact ⟨583, l_card hL hi h, fun q => by rw [q121_39, if_neg h0, if_neg h1, if_neg h2, if_neg h3, if_neg h4, if_neg h5, if_neg h6, if_neg h7, if_neg h8, if_neg h9, if_pos h10]⟩
  by_cases h11 : v = 11
  · exact ⟨620, l_seen hL hi h, fun q => by rw [q121_39, if_neg h0, if_neg h1, if_neg h2, if_neg h3, if_neg h4, if_neg h5, if_neg h6, if_neg h7, if_neg h8, if_neg h9, if_neg h10, if_pos h11]⟩
  by_cases h12 : v = 12
  · exact ⟨669, l_counter hL hi h, fun q => by rw [q121_39, if_neg h0, if_neg h1, if_neg h2, if_neg h3, if_neg h4, if_neg h5, if_neg h6, if_neg h7, if_neg h8, if_neg h9, if_neg h10, if_neg h11, if_pos h12]⟩
  by_cases h13 : v = 13
  · exact ⟨725, l_look hL hi h, fun q => by rw [q121_39, if_neg h0, if_neg h1, if_neg h2, if_neg h3, if_neg h4, if_neg h5, if_neg h6, if_neg h7, if_neg h8, if_neg h9, if_neg h10, if_neg h11, if_neg h12, if_pos h13]⟩
  by_cases h14 : v = 14
  · exact ⟨750, l_solve hL hi h, fun q => by rw [q121_39, if_neg h0, if_neg h1, if_neg h2, if_neg h3, if_neg h4, if_neg h5, if_neg h6, if_neg h7, if_neg h8, if_neg h9, if_neg h10, if_neg h11, if_neg h12, if_neg h13, if_pos h14]⟩
  by_cases h15 : v = 15
  · exact ⟨806, l_best hL hi h, fun q => by rw [q121_39, if_neg h0, if_neg h1, if_neg h2, if_neg h3, if_neg h4, if_neg h5, if_neg h6, if_neg h7, if_neg h8, if_neg h9, if_neg h10, if_neg h11, if_neg h12, if_neg h13, if_neg h14, if_pos h15]⟩
  exact ⟨819, l_none h, fun q => by rw [q121_39, if_neg h0, if_neg h1, if_neg h2, if_neg h3, if_neg h4, if_neg h5, if_neg h6, if_neg h7, if_neg h8, if_neg h9, if_neg h10, if_neg h11, if_neg h12, if_neg h13, if_neg h14, if_neg h15]⟩
theorem l_exit (hL : L ≤ 2048) {i : Nat} (hi : i ≤ 3000) (hx : L < i + 4) (h : LI xs L S I) {y5 y6 : Option Value} : pm_R (d + 70) 121 23 (ll i y5 y6) [] (Wm I k o) (.inl (some (.int 1)), Wm I k o) := by
  have xL := h.2.2.2.2
  have hlt := (ls_lt hL hi).mpr hx
  simp (decide := true) only [q121_23, q121_25, q121_26, q121_27, q121_28, q121_29, q121_825, q121_826, W_1, W_I, W_mk, W_tk, pm_rv, rf_0_0, rf_0_1, rf_0_2, rf_0_3, rf_0_4, rf_0_7, rf_0_8, rf_1_0, rf_1_2, rf_3_0, rf_3_1, rf_3_6, rf_3_7, rf_3_8, rf_9_0, rf_9_1, rf_10_0, rf_10_1, rf_10_6, rf_10_7, rf_10_8, rf_17_0, rf_17_1, rf_538_2, rf_538_6, rf_538_7, rf_538_9, rf_538_11, rf_538_12, rf_538_18, rf_538_19, rf_538_22, rf_538_23, rf_538_25, rf_538_27, rf_538_28, rf_538_30, rf_538_31, rf_538_32, rf_538_33, rf_538_34, rf_538_35, rf_538_36, ob_0, ob_1, ob_3, ob_9, ob_10, ob_17, ob_538, ar_2, ar_4, ar_5, ar_6, ar_7, ar_8, ar_11, ar_12, ar_13, ar_14, ar_15, ar_16, ar_116, ar_117, ar_539, ar_540, ar_541, ar_542, ar_543, ar_544, ar_545, ar_546, ar_547, ar_548, ar_549, ar_550, ar_551, ar_552, ar_553, ar_554, ar_555, ar_556, ar_557, ar_558, ex_eq, ex_ite, pm_bk_r, pm_bk_t, ol_nil, ol_one, true_and, and_true, false_and, and_false, reduceIte, Nat.reduceEqDiff, up_at, Nat.add_left_cancel_iff, xL, hlt]
theorem l_head (hL : L ≤ 2048) {i : Nat} (hi : i + 4 ≤ L) (h : LI xs L S I) {y5 y6 : Option Value} {q : pm_Res} : pm_R (d + 70) 121 23 (ll i y5 y6) [] (Wm I k o) q ↔ pm_R (d + 70) 121 39 (ll i y5 y6) [.int (xs i &&& 15)] (Wm I k o) q := by
  obtain ⟨ix1, ix2, ix3, hv, hcl, clL⟩ := ix hL hi
  have x0 := h.2.2.2.1
  have xL := h.2.2.2.2
  have hv0 : vp_in (nI i) L ↔ True := hv 0 (by omega)
  have hc0 : (nI i).toNatClampNeg = i := hcl 0 (by omega)
  have hlt : ¬ (nI L - 4 < nI i) := fun q => by have := (ls_lt hL (by omega)).mp q; omega
  simp (decide := true) only [q121_23, q121_25, q121_26, q121_27, q121_28, q121_29, q121_32, q121_33, q121_35, q121_36, q121_38, W_1, W_I, W_mk, W_tk, pm_rv, rf_0_0, rf_0_1, rf_0_2, rf_0_3, rf_0_4, rf_0_7, rf_0_8, rf_1_0, rf_1_2, rf_3_0, rf_3_1, rf_3_6, rf_3_7, rf_3_8, rf_9_0, rf_9_1, rf_10_0, rf_10_1, rf_10_6, rf_10_7, rf_10_8, rf_17_0, rf_17_1, rf_538_2, rf_538_6, rf_538_7, rf_538_9, rf_538_11, rf_538_12, rf_538_18, rf_538_19, rf_538_22, rf_538_23, rf_538_25, rf_538_27, rf_538_28, rf_538_30, rf_538_31, rf_538_32, rf_538_33, rf_538_34, rf_538_35, rf_538_36, ob_0, ob_1, ob_3, ob_9, ob_10, ob_17, ob_538, ar_2, ar_4, ar_5, ar_6, ar_7, ar_8, ar_11, ar_12, ar_13, ar_14, ar_15, ar_16, ar_116, ar_117, ar_539, ar_540, ar_541, ar_542, ar_543, ar_544, ar_545, ar_546, ar_547, ar_548, ar_549, ar_550, ar_551, ar_552, ar_553, ar_554, ar_555, ar_556, ar_557, ar_558, ex_eq, ex_ite, pm_bk_r, pm_bk_t, ol_nil, ol_one, true_and, and_true, false_and, and_false, reduceIte, Nat.reduceEqDiff, up_at, Nat.add_left_cancel_iff, xL, x0, hlt, clL, hv0, hc0]
theorem l_loop (hL : L ≤ 2048) (n : Nat) : ∀ (i : Nat) (S : AS) (I : Nat → Nat → Int32) (k : Nat) (o : Int64) (y5 y6 : Option Value), LI xs L S I → i ≤ 2052 → L ≤ i + 4 * n + 3 → ∃ M', pm_R (d + 70) 121 23 (ll i y5 y6) [] (Wm I k o) (.inl (some (.int 1)), M') ∧ pm_ct M' ≤ k + n := by
  induction n with
  | zero =>
    intro i S I k o y5 y6 h hi hx
    exact ⟨_, l_exit hL (by omega) (by omega) h, by rw [W_ct]; omega⟩
  | succ n ih =>
    intro i S I k o y5 y6 h hi hx
    by_cases hc : i + 4 ≤ L
    · obtain ⟨p, ⟨S', I', k', o', z5, z6, h', hk, hst⟩, hp⟩ := l_pick (d := d) (k := k) (o := o) hL hc h (y5 := y5) (y6 := y6) (v := xs i &&& 15)
      obtain ⟨M', hr, hm⟩ := ih (i + 4) S' I' k' o' z5 z6 h' (by omega) (by omega)
      refine ⟨M', ?_, by omega⟩
      rw [l_head hL hc h, hp, hst, q121_819, q121_822]
      have e : nI i + 4 = nI (i + 4) := sm_add i 4
      rw [e]
      exact hr
    · exact ⟨_, l_exit hL (by omega) (by omega) h, by rw [W_ct]; omega⟩
end LOOP
