/-! MOVES: the class's listMoves and makeMove -/
section LS2
variable {d k t : Nat} {o : Int64}
theorem sm_gt1 {N c : Nat} (hN : 1 ≤ N) (h24 : N ≤ 24) (hc : c < N) : ¬ nI N - 1 < nI c := by
  rw [show (1 : Int32) = nI 1 from rfl, sm_sub hN, sm_lt (by omega) (by omega)]
  omega
def a_one (G : Gm) (P : Pos) (r : Nat) (X : List Nat) : List (Nat × Nat) := (X.filter (fun cc => a_mayb G P r cc)).map (fun cc => (r, cc))
theorem a_one_cons {G : Gm} {P : Pos} {r c : Nat} {X : List Nat} : a_one G P r (c :: X) = (if a_mayb G P r c = true then [(r, c)] else []) ++ a_one G P r X := by
  unfold a_one
  rw [List.filter_cons]
  split <;> simp
theorem a_one_len {G : Gm} {P : Pos} {r : Nat} {X : List Nat} : (a_one G P r X).length ≤ X.length := by
  unfold a_one
  rw [List.length_map]
  exact List.length_filter_le _ _
theorem c83_m (ht : tb t) {G : Gm} (hG : g_ok G) {P : Pos} (hP : PA (g_n G) P) {R r : Nat} (hR : rw_ R) (hr : r < G.2.2.2.1.length) {x5 x6 : Option Value} : ∀ (n c : Nat) (L : List (Nat × Nat)) (I : Nat → Nat → Int32) (y9 : Option Value), c + n = g_n G → L.length + n ≤ 192 → GR G I → TR t P I → RW R L I →
    ∃ J z8 z9, TR t P J ∧ GR G J ∧ RW R (L ++ a_one G P r ((List.range' c n).map (· + 1))) J ∧ FL t R I J ∧ ∀ q, (pm_R (d + 4) 83 93 [some (.ref 9), some (.ref t), some (.ref R), some (.int (nI L.length)), some (.int (nI r)), x5, x6, some (.int (nI (g_n G) - 1)), some (.int (nI c)), y9] [] (Wm I k o) q ↔
      pm_R (d + 4) 83 23 [some (.ref 9), some (.ref t), some (.ref R), some (.int (nI (L ++ a_one G P r ((List.range' c n).map (· + 1))).length)), some (.int (nI (r + 1))), x5, x6, some (.int (nI (g_n G) - 1)), z8, z9] [] (Wm J k o) q) := by
  intro n
  have hn := g_n24 hG
  induction n with
  | zero =>
    intro c L I y9 hc hl hGR h hW
    refine ⟨I, some (.int (nI c)), y9, h, hGR, ?_, FL.refl, fun q => ?_⟩
    · show RW R (L ++ []) I
      rw [List.append_nil]
      exact hW
    · show _ ↔ pm_R (d + 4) 83 23 [some (.ref 9), some (.ref t), some (.ref R), some (.int (nI (L ++ []).length)), _, _, _, _, _, _] [] (Wm I k o) q
      rw [List.append_nil, q83_93]
      have e : (nI (g_n G) - 1 < nI c) ↔ True := iff_true_intro (by
        rw [show (1 : Int32) = nI 1 from rfl, sm_sub hn.1, sm_lt (by omega) (by omega)]; omega)
      simp only [q83_95, q83_97, e, reduceIte, q83_180, q83_183, sm_s]
  | succ n ih =>
    intro c L I y9 hc hl hGR h hW
    obtain ⟨J, z9, g1, g2, g3, g4, g5⟩ := c83_i (d := d) (k := k) (o := o) (cc := c + 1) (last := nI (g_n G) - 1) (x5 := x5) (x6 := x6) (y9 := y9) ht hG hP hR hr (by omega) (by omega) hGR h hW (by
      show ¬ _ < (if c + 1 = 0 then (-1 : Int32) else nI (c + 1 - 1))
      rw [if_neg (by omega)]
      exact sm_gt1 hn.1 hn.2 (by omega))
    have e8 : a_ch (c + 1) = nI c := if_neg (by omega)
    rw [e8] at g5
    have hl2 : (L ++ (if a_mayb G P r (c + 1) = true then [(r, c + 1)] else [])).length + n ≤ 192 := by
      rw [List.length_append]
      split <;> simp <;> omega
    obtain ⟨J', z8', z9', f1, f2, f3, f4, f5⟩ := ih (c + 1) _ J z9 (by omega) hl2 g2 g1 g3
    have el : L ++ a_one G P r ((List.range' c (n + 1)).map (· + 1)) = (L ++ (if a_mayb G P r (c + 1) = true then [(r, c + 1)] else [])) ++ a_one G P r ((List.range' (c + 1) n).map (· + 1)) := by
      rw [show (List.range' c (n + 1)).map (· + 1) = (c + 1) :: (List.range' (c + 1) n).map (· + 1) from rfl, a_one_cons, List.append_assoc]
    rw [el]
    refine ⟨J', z8', z9', f1, f2, f3, g4.trans f4, fun q => ?_⟩
    rw [g5, sm_s, f5]
theorem a_rule_one {G : Gm} {P : Pos} {r : Nat} : a_rule G P r = a_one G P r (if (g_r G r).1 = true then (List.range' 0 (g_n G)).map (· + 1) else [0]) := rfl
theorem c83_o (ht : tb t) {G : Gm} (hG : g_ok G) {P : Pos} (hP : PA (g_n G) P) {R : Nat} (hR : rw_ R) : ∀ (n r : Nat) (L : List (Nat × Nat)) (I : Nat → Nat → Int32) (y5 y6 y7 y8 y9 : Option Value), r + n = G.2.2.2.1.length → L.length + 24 * n ≤ 192 → GR G I → TR t P I → RW R L I →
    ∃ J, TR t P J ∧ GR G J ∧ RW R (L ++ (List.range' r n).flatMap (a_rule G P)) J ∧ FL t R I J ∧ ∀ q, (pm_R (d + 4) 83 23 [some (.ref 9), some (.ref t), some (.ref R), some (.int (nI L.length)), some (.int (nI r)), y5, y6, y7, y8, y9] [] (Wm I k o) q ↔
      q = (.inl (some (.int (nI (L ++ (List.range' r n).flatMap (a_rule G P)).length))), Wm J k o)) := by
  intro n
  have hn := g_n24 hG
  induction n with
  | zero =>
    intro r L I y5 y6 y7 y8 y9 hc hl hGR h hW
    have e0 : L ++ (List.range' r 0).flatMap (a_rule G P) = L := by
      show L ++ [] = L
      rw [List.append_nil]
    rw [e0]
    refine ⟨I, h, hGR, hW, FL.refl, fun q => ?_⟩
    have h8 : G.2.2.2.1.length ≤ 8 := hG.2.2.2.1
    rw [q83_23]
    have e : (nI r < nI G.2.2.2.1.length) ↔ False := iff_false_intro (by rw [sm_lt (by omega) (by omega)]; omega)
    simp only [q83_25, q83_26, q83_29, q83_32, q83_186, q83_187, W_1, W_I, W_mk, W_tk, pm_rv, rf_0_0, rf_0_1, rf_0_2, rf_0_3, rf_0_4, rf_0_7, rf_0_8, rf_1_0, rf_1_2, rf_3_0, rf_3_1, rf_3_6, rf_3_7, rf_3_8, rf_9_0, rf_9_1, rf_10_0, rf_10_1, rf_10_6, rf_10_7, rf_10_8, rf_17_0, rf_17_1, rf_538_2, rf_538_6, rf_538_7, rf_538_9, rf_538_11, rf_538_12, rf_538_18, rf_538_19, rf_538_22, rf_538_23, rf_538_25, rf_538_27, rf_538_28, rf_538_30, rf_538_31, rf_538_32, rf_538_33, rf_538_34, rf_538_35, rf_538_36, ob_0, ob_1, ob_3, ob_9, ob_10, ob_17, ob_538, ar_2, ar_4, ar_5, ar_6, ar_7, ar_8, ar_11, ar_12, ar_13, ar_14, ar_15, ar_16, ar_116, ar_117, ar_539, ar_540, ar_541, ar_542, ar_543, ar_544, ar_545, ar_546, ar_547, ar_548, ar_549, ar_550, ar_551, ar_552, ar_553, ar_554, ar_555, ar_556, ar_557, ar_558, ex_eq, ex_ite, pm_bk_r, pm_bk_t, ol_nil, ol_one, true_and, and_true, false_and, and_false, reduceIte, Nat.reduceEqDiff, up_at, Nat.add_left_cancel_iff, hGR.2.2.2.1, e]
  | succ n ih =>
    intro r L I y5 y6 y7 y8 y9 hc hl hGR h hW
    have h8 : G.2.2.2.1.length ≤ 8 := hG.2.2.2.1
    have hr : r < G.2.2.2.1.length := by omega
    have hk := hGR.2.2.2.2.2 r hr
    have e : (nI r < nI G.2.2.2.1.length) ↔ True := iff_true_intro (by rw [sm_lt (by omega) (by omega)]; omega)
    have el : L ++ (List.range' r (n + 1)).flatMap (a_rule G P) = (L ++ a_rule G P r) ++ (List.range' (r + 1) n).flatMap (a_rule G P) := by
      rw [show List.range' r (n + 1) = r :: List.range' (r + 1) n from rfl, List.flatMap_cons, List.append_assoc]
    rw [el]
    by_cases hM : (g_r G r).1 = true
    · have er : a_rule G P r = a_one G P r ((List.range' 0 (g_n G)).map (· + 1)) := by rw [a_rule_one, if_pos hM]
      have hlen : (a_rule G P r).length ≤ 24 := by
        rw [er]
        refine Nat.le_trans a_one_len ?_
        rw [List.length_map, List.length_range']
        exact hn.2
      obtain ⟨J, z8, z9, g1, g2, g3, g4, g5⟩ := c83_m (d := d) (k := k) (o := o) ht hG hP hR hr (x5 := some (.int 1)) (x6 := some (.int 0)) (g_n G) 0 L I y9 (by omega) (by omega) hGR h hW
      rw [← er] at g3 g5
      obtain ⟨J', f1, f2, f3, f4, f5⟩ := ih (r + 1) (L ++ a_rule G P r) J (some (.int 1)) (some (.int 0)) (some (.int (nI (g_n G) - 1))) z8 z9 (by omega) (by rw [List.length_append]; omega) g2 g1 g3
      refine ⟨J', f1, f2, f3, g4.trans f4, fun q => ?_⟩
      rw [q83_23]
      rw [if_pos hM] at hk
      have g5' := g5 q
      rw [show nI 0 = (0 : Int32) from rfl] at g5'
      simp (decide := true) only [q83_25, q83_26, q83_29, q83_32, q83_35, q83_36, q83_39, q83_42, q83_44, q83_45, q83_47, q83_50, q83_51, q83_54, q83_55, q83_57, q83_59, q83_62, q83_63, q83_66, q83_67, q83_69, q83_71, q83_74, q83_75, q83_78, q83_81, q83_82, q83_83, q83_86, q83_87, q83_89, q83_91, W_1, W_I, W_mk, W_tk, pm_rv, rf_0_0, rf_0_1, rf_0_2, rf_0_3, rf_0_4, rf_0_7, rf_0_8, rf_1_0, rf_1_2, rf_3_0, rf_3_1, rf_3_6, rf_3_7, rf_3_8, rf_9_0, rf_9_1, rf_10_0, rf_10_1, rf_10_6, rf_10_7, rf_10_8, rf_17_0, rf_17_1, rf_538_2, rf_538_6, rf_538_7, rf_538_9, rf_538_11, rf_538_12, rf_538_18, rf_538_19, rf_538_22, rf_538_23, rf_538_25, rf_538_27, rf_538_28, rf_538_30, rf_538_31, rf_538_32, rf_538_33, rf_538_34, rf_538_35, rf_538_36, ob_0, ob_1, ob_3, ob_9, ob_10, ob_17, ob_538, ar_2, ar_4, ar_5, ar_6, ar_7, ar_8, ar_11, ar_12, ar_13, ar_14, ar_15, ar_16, ar_116, ar_117, ar_539, ar_540, ar_541, ar_542, ar_543, ar_544, ar_545, ar_546, ar_547, ar_548, ar_549, ar_550, ar_551, ar_552, ar_553, ar_554, ar_555, ar_556, ar_557, ar_558, ex_eq, ex_ite, pm_bk_r, pm_bk_t, ol_nil, ol_one, true_and, and_true, false_and, and_false, reduceIte, Nat.reduceEqDiff, up_at, Nat.add_left_cancel_iff, hGR.2.2.2.1, e, sm_in (show r < 2147483648 by omega), show r < 8 by omega, sm_cl (show r < 2147483648 by omega), hk.1, hGR.2.1, g5', f5]
    · have er : a_rule G P r = (if a_mayb G P r 0 = true then [(r, 0)] else []) := by
        rw [a_rule_one, if_neg hM]
        show a_one G P r (0 :: []) = _
        rw [a_one_cons]
        exact List.append_nil _
      have hlen : (a_rule G P r).length ≤ 1 := by rw [er]; split <;> simp
      obtain ⟨J, z9, g1, g2, g3, g4, g5⟩ := c83_i (d := d) (k := k) (o := o) (cc := 0) (last := -1) (x5 := some (.int 0)) (x6 := some (.int (-1))) (y9 := y9) ht hG hP hR hr (by omega) (by omega) hGR h hW (by decide)
      rw [← er] at g3 g5
      obtain ⟨J', f1, f2, f3, f4, f5⟩ := ih (r + 1) (L ++ a_rule G P r) J (some (.int 0)) (some (.int (-1))) (some (.int (-1))) (some (.int 0)) z9 (by omega) (by rw [List.length_append]; omega) g2 g1 g3
      refine ⟨J', f1, f2, f3, g4.trans f4, fun q => ?_⟩
      rw [q83_23]
      rw [if_neg hM] at hk
      have g5' := g5 q
      rw [show a_ch 0 = (-1 : Int32) from rfl, show (-1 : Int32) + 1 = 0 from rfl] at g5'
      simp (decide := true) only [q83_25, q83_26, q83_29, q83_32, q83_35, q83_36, q83_39, q83_42, q83_44, q83_45, q83_47, q83_50, q83_51, q83_54, q83_55, q83_57, q83_59, q83_62, q83_63, q83_66, q83_67, q83_69, q83_71, q83_74, q83_75, q83_78, q83_81, q83_82, q83_83, q83_86, q83_87, q83_89, q83_91, W_1, W_I, W_mk, W_tk, pm_rv, rf_0_0, rf_0_1, rf_0_2, rf_0_3, rf_0_4, rf_0_7, rf_0_8, rf_1_0, rf_1_2, rf_3_0, rf_3_1, rf_3_6, rf_3_7, rf_3_8, rf_9_0, rf_9_1, rf_10_0, rf_10_1, rf_10_6, rf_10_7, rf_10_8, rf_17_0, rf_17_1, rf_538_2, rf_538_6, rf_538_7, rf_538_9, rf_538_11, rf_538_12, rf_538_18, rf_538_19, rf_538_22, rf_538_23, rf_538_25, rf_538_27, rf_538_28, rf_538_30, rf_538_31, rf_538_32, rf_538_33, rf_538_34, rf_538_35, rf_538_36, ob_0, ob_1, ob_3, ob_9, ob_10, ob_17, ob_538, ar_2, ar_4, ar_5, ar_6, ar_7, ar_8, ar_11, ar_12, ar_13, ar_14, ar_15, ar_16, ar_116, ar_117, ar_539, ar_540, ar_541, ar_542, ar_543, ar_544, ar_545, ar_546, ar_547, ar_548, ar_549, ar_550, ar_551, ar_552, ar_553, ar_554, ar_555, ar_556, ar_557, ar_558, ex_eq, ex_ite, pm_bk_r, pm_bk_t, ol_nil, ol_one, true_and, and_true, false_and, and_false, reduceIte, Nat.reduceEqDiff, up_at, Nat.add_left_cancel_iff, hGR.2.2.2.1, e, sm_in (show r < 2147483648 by omega), show r < 8 by omega, sm_cl (show r < 2147483648 by omega), hk.1, hGR.2.1, g5']
      rw [q83_93]
      simp (decide := true) only [q83_95, q83_97, reduceIte, q83_180, q83_183, sm_s, f5]
theorem c83 (ht : tb t) {G : Gm} (hG : g_ok G) {P : Pos} (hP : PA (g_n G) P) {R : Nat} (hR : rw_ R) {I : Nat → Nat → Int32} (hGR : GR G I) (h : TR t P I) :
    ∃ J, TR t P J ∧ GR G J ∧ RW R (a_list G P) J ∧ FL t R I J ∧ ∀ q, (pm_C (d + 5) 83 [.ref 9, .ref t, .ref R] (Wm I k o) q ↔ q = (.inl (some (.int (nI (a_list G P).length))), Wm J k o)) := by
  have h8 : G.2.2.2.1.length ≤ 8 := hG.2.2.2.1
  obtain ⟨J, g1, g2, g3⟩ := c85v (d := d) (k := k) (o := o) ht hG (Or.inl rfl) hG.2.2.2.2.2 hGR h hP
  by_cases hv : a_val G P (-1) G.2.2.2.2 = 0
  · obtain ⟨J', f1, f2, f3, f4, f5⟩ := c83_o (d := d) (k := k) (o := o) ht hG hP hR G.2.2.2.1.length 0 [] J none none none none none (by omega) (by simp; omega) (hGR.fr ht g2) g1 (fun i hi => by simp at hi)
    have el : [] ++ (List.range' 0 G.2.2.2.1.length).flatMap (a_rule G P) = a_list G P := by
      unfold a_list
      rw [if_pos hv]
      rfl
    rw [el] at f3 f5
    refine ⟨J', f1, f2, f3, g2.fl.trans f4, fun q => ?_⟩
    have f5' := f5 q
    rw [show nI 0 = (0 : Int32) from rfl, show nI ([] : List (Nat × Nat)).length = (0 : Int32) from rfl] at f5'
    rw [n83]
    simp only [q83_0, q83_1, q83_2, q83_3, q83_6, q83_9, q83_10, q83_13, q83_16, q83_17, q83_18, q83_19, q83_20, q83_21, W_1, W_I, W_mk, W_tk, pm_rv, rf_0_0, rf_0_1, rf_0_2, rf_0_3, rf_0_4, rf_0_7, rf_0_8, rf_1_0, rf_1_2, rf_3_0, rf_3_1, rf_3_6, rf_3_7, rf_3_8, rf_9_0, rf_9_1, rf_10_0, rf_10_1, rf_10_6, rf_10_7, rf_10_8, rf_17_0, rf_17_1, rf_538_2, rf_538_6, rf_538_7, rf_538_9, rf_538_11, rf_538_12, rf_538_18, rf_538_19, rf_538_22, rf_538_23, rf_538_25, rf_538_27, rf_538_28, rf_538_30, rf_538_31, rf_538_32, rf_538_33, rf_538_34, rf_538_35, rf_538_36, ob_0, ob_1, ob_3, ob_9, ob_10, ob_17, ob_538, ar_2, ar_4, ar_5, ar_6, ar_7, ar_8, ar_11, ar_12, ar_13, ar_14, ar_15, ar_16, ar_116, ar_117, ar_539, ar_540, ar_541, ar_542, ar_543, ar_544, ar_545, ar_546, ar_547, ar_548, ar_549, ar_550, ar_551, ar_552, ar_553, ar_554, ar_555, ar_556, ar_557, ar_558, ex_eq, ex_ite, pm_bk_r, pm_bk_t, ol_nil, ol_one, true_and, and_true, false_and, and_false, reduceIte, Nat.reduceEqDiff, up_at, Nat.add_left_cancel_iff, hGR.2.2.2.2.1, g3, hv, f5']
  · have el : a_list G P = [] := by
      unfold a_list
      rw [if_neg hv]
    rw [el]
    refine ⟨J, g1, hGR.fr ht g2, fun i hi => by simp at hi, g2.fl, fun q => ?_⟩
    rw [n83]
    simp only [q83_0, q83_1, q83_2, q83_3, q83_6, q83_9, q83_10, q83_13, q83_16, q83_17, q83_18, q83_19, q83_20, q83_21, W_1, W_I, W_mk, W_tk, pm_rv, rf_0_0, rf_0_1, rf_0_2, rf_0_3, rf_0_4, rf_0_7, rf_0_8, rf_1_0, rf_1_2, rf_3_0, rf_3_1, rf_3_6, rf_3_7, rf_3_8, rf_9_0, rf_9_1, rf_10_0, rf_10_1, rf_10_6, rf_10_7, rf_10_8, rf_17_0, rf_17_1, rf_538_2, rf_538_6, rf_538_7, rf_538_9, rf_538_11, rf_538_12, rf_538_18, rf_538_19, rf_538_22, rf_538_23, rf_538_25, rf_538_27, rf_538_28, rf_538_30, rf_538_31, rf_538_32, rf_538_33, rf_538_34, rf_538_35, rf_538_36, ob_0, ob_1, ob_3, ob_9, ob_10, ob_17, ob_538, ar_2, ar_4, ar_5, ar_6, ar_7, ar_8, ar_11, ar_12, ar_13, ar_14, ar_15, ar_16, ar_116, ar_117, ar_539, ar_540, ar_541, ar_542, ar_543, ar_544, ar_545, ar_546, ar_547, ar_548, ar_549, ar_550, ar_551, ar_552, ar_553, ar_554, ar_555, ar_556, ar_557, ar_558, ex_eq, ex_ite, pm_bk_r, pm_bk_t, ol_nil, ol_one, true_and, and_true, false_and, and_false, reduceIte, Nat.reduceEqDiff, up_at, Nat.add_left_cancel_iff, hGR.2.2.2.2.1, g3, hv]
    rfl
/-- a move's two numbers out of one -/
theorem enc_div {m : Nat × Nat} (h : m.2 ≤ 24) : a_enc m / 25 = m.1 := by unfold a_enc; omega
theorem enc_mod {m : Nat × Nat} (h : m.2 ≤ 24) : a_enc m - m.1 * 25 = m.2 := by unfold a_enc; omega
theorem c12 {m : Nat × Nat} (h : m.2 ≤ 24) (h1 : m.1 < 1000) {M : pm_Mem} {q : pm_Res} : pm_C (d + 1) 12 [.int (nI (a_enc m))] M q ↔ q = (.inl (some (.int (nI m.1))), M) := by
  have e : nI (a_enc m) / 25 = nI m.1 := by
    rw [show (25 : Int32) = nI 25 from rfl, sm_div (by unfold a_enc; omega) (by omega), enc_div h]
  rw [n12]
  simp (decide := true) only [q12_0, q12_1, q12_3, q12_4, ex_eq, ex_ite, pm_bk_r, pm_bk_t, ol_nil, ol_one, true_and, and_true, false_and, and_false, reduceIte, Nat.reduceEqDiff, up_at, Nat.add_left_cancel_iff, e]
theorem c13 {m : Nat × Nat} (h : m.2 ≤ 24) (h1 : m.1 < 1000) {M : pm_Mem} {q : pm_Res} : pm_C (d + 1) 13 [.int (nI (a_enc m))] M q ↔ q = (.inl (some (.int (a_ch m.2))), M) := by
  have e : nI (a_enc m) / 25 = nI m.1 := by
    rw [show (25 : Int32) = nI 25 from rfl, sm_div (by unfold a_enc; omega) (by omega), enc_div h]
  have e2 : nI (a_enc m) - nI m.1 * 25 - 1 = a_ch m.2 := by
    rw [show (25 : Int32) = nI 25 from rfl, sm_mul, sm_sub (by unfold a_enc; omega), enc_mod h]
    unfold a_ch
    split
    · rename_i e; rw [e]; rfl
    · rw [show (1 : Int32) = nI 1 from rfl, sm_sub (by omega)]
  rw [n13]
  simp (decide := true) only [q13_0, q13_1, q13_3, q13_4, q13_5, q13_6, ex_eq, ex_ite, pm_bk_r, pm_bk_t, ol_nil, ol_one, true_and, and_true, false_and, and_false, reduceIte, Nat.reduceEqDiff, up_at, Nat.add_left_cancel_iff, e, e2]
theorem c84 (ht : tb t) {G : Gm} (hG : g_ok G) {P : Pos} (hP : PA (g_n G) P) {m : Nat × Nat} (hr : m.1 < G.2.2.2.1.length) (hm : m.2 ≤ g_n G) {I : Nat → Nat → Int32} (hGR : GR G I) (h : TR t P I) :
    ∃ J, TR t (a_make G P m) J ∧ PA (g_n G) (a_make G P m) ∧ FR t I J ∧ ∀ q, (pm_C (d + 5) 84 [.ref 9, .ref t, .int (nI (a_enc m))] (Wm I k o) q ↔ q = (.inl none, Wm J k o)) := by
  have h8 : G.2.2.2.1.length ≤ 8 := hG.2.2.2.1
  have hn := g_n24 hG
  obtain ⟨J, g1, g2, g3, g4⟩ := c85e (d := d) (k := k) (o := o) ht hG (a_ch_CH hm) (hG.2.2.2.2.1 m.1 hr).2.1 hGR h hP
  refine ⟨J, g1, g2, g3, fun q => ?_⟩
  have hk := hGR.2.2.2.2.2 m.1 hr
  have e : (nI m.1 < nI G.2.2.2.1.length) ↔ True := iff_true_intro (by rw [sm_lt (by omega) (by omega)]; omega)
  have e0 : (nI m.1 < 0) ↔ False := iff_false_intro (sm_neg (by omega))
  rw [n84]
  simp only [q84_0, q84_1, q84_4, q84_5, q84_6, q84_9, q84_10, q84_11, q84_14, q84_17, q84_20, q84_21, q84_22, q84_23, q84_26, q84_29, q84_30, q84_31, q84_32, q84_35, q84_38, q84_39, W_1, W_I, W_mk, W_tk, pm_rv, rf_0_0, rf_0_1, rf_0_2, rf_0_3, rf_0_4, rf_0_7, rf_0_8, rf_1_0, rf_1_2, rf_3_0, rf_3_1, rf_3_6, rf_3_7, rf_3_8, rf_9_0, rf_9_1, rf_10_0, rf_10_1, rf_10_6, rf_10_7, rf_10_8, rf_17_0, rf_17_1, rf_538_2, rf_538_6, rf_538_7, rf_538_9, rf_538_11, rf_538_12, rf_538_18, rf_538_19, rf_538_22, rf_538_23, rf_538_25, rf_538_27, rf_538_28, rf_538_30, rf_538_31, rf_538_32, rf_538_33, rf_538_34, rf_538_35, rf_538_36, ob_0, ob_1, ob_3, ob_9, ob_10, ob_17, ob_538, ar_2, ar_4, ar_5, ar_6, ar_7, ar_8, ar_11, ar_12, ar_13, ar_14, ar_15, ar_16, ar_116, ar_117, ar_539, ar_540, ar_541, ar_542, ar_543, ar_544, ar_545, ar_546, ar_547, ar_548, ar_549, ar_550, ar_551, ar_552, ar_553, ar_554, ar_555, ar_556, ar_557, ar_558, ex_eq, ex_ite, pm_bk_r, pm_bk_t, ol_nil, ol_one, true_and, and_true, false_and, and_false, reduceIte, Nat.reduceEqDiff, up_at, Nat.add_left_cancel_iff, c12 (d := d + 3) (show m.2 ≤ 24 by omega) (show m.1 < 1000 by omega), c13 (d := d + 3) (show m.2 ≤ 24 by omega) (show m.1 < 1000 by omega), e, e0, hGR.2.2.2.1, sm_in (show m.1 < 2147483648 by omega), show m.1 < 8 by omega, sm_cl (show m.1 < 2147483648 by omega), hk.2.2, g4]
/-- what stands in the list -/
theorem a_list_mem {G : Gm} {P : Pos} {m : Nat × Nat} (h : m ∈ a_list G P) : m.1 < G.2.2.2.1.length ∧ m.2 ≤ g_n G := by
  unfold a_list at h
  split at h
  · rw [List.mem_flatMap] at h
    obtain ⟨r, h1, h2⟩ := h
    rw [List.mem_range'_1] at h1
    unfold a_rule at h2
    rw [List.mem_map] at h2
    obtain ⟨c, h3, rfl⟩ := h2
    have h3 := (List.mem_filter.mp h3).1
    refine ⟨by show r < _; omega, ?_⟩
    show c ≤ _
    split at h3
    · rw [List.mem_map] at h3
      obtain ⟨x, h4, rfl⟩ := h3
      rw [List.mem_range'_1] at h4
      omega
    · have := List.mem_singleton.mp h3
      omega
  · cases h
theorem a_list_len {G : Gm} (hG : g_ok G) {P : Pos} : (a_list G P).length ≤ 192 := by
  have h8 : G.2.2.2.1.length ≤ 8 := hG.2.2.2.1
  have hn := g_n24 hG
  have key : ∀ n r, ((List.range' r n).flatMap (a_rule G P)).length ≤ 24 * n := by
    intro n
    induction n with
    | zero => intro r; exact Nat.zero_le _
    | succ n ih =>
      intro r
      rw [show List.range' r (n + 1) = r :: List.range' (r + 1) n from rfl, List.flatMap_cons, List.length_append]
      have := ih (r + 1)
      have h2 : (a_rule G P r).length ≤ 24 := by
        rw [a_rule_one]
        refine Nat.le_trans a_one_len ?_
        split
        · rw [List.length_map, List.length_range']; exact hn.2
        · exact Nat.le_trans (Nat.le_refl 1) (by decide)
      omega
  unfold a_list
  split
  · have := key G.2.2.2.1.length 0
    omega
  · exact Nat.zero_le _
end LS2
