/-! THE REFERENCE: its other calls -/
section MOT
variable {d k : Nat} {o : Int64} {S : AS} {I : Nat → Nat → Int32}
theorem m63 (hA : AOK S) (h : MI S I) {c p : Int32} : MOK (o_put S c p).1 0 (bI (o_put S c p).2) I k o (fun M q => pm_C (d + 3) 63 [.ref 538, .int c, .int p] M q) := by
  have h24 := h.2.2.2.1
  have ht := h.th 0
  have e5 : (5 < p) ↔ ¬ p < 6 := by
    rw [Int32.lt_iff_toInt_lt, Int32.lt_iff_toInt_lt]
    have e5 : (5 : Int32).toInt = 5 := by decide
    have e6 : (6 : Int32).toInt = 6 := by decide
    omega
  cases hD : S.2.2.1 with
  | none =>
    rw [hD] at h24
    have h24 : I 538 24 = 0 := h24
    have ho : o_put S c p = (S, false) := by unfold o_put; rw [hD]; cases S.2.1 <;> rfl
    rw [ho]
    refine ⟨_, ht.1, ht.2, up_eq, fun q => ?_⟩
    show pm_C (d + 3) 63 _ _ q ↔ _
    rw [n63]
    simp (decide := true) only [q63_0, q63_1, q63_2, q63_5, q63_6, q63_9, q63_12, q63_13, q63_16, q63_17, q63_18, q63_21, q63_22, q63_25, q63_26, q63_29, q63_30, q63_33, q63_34, q63_35, q63_38, q63_39, q63_40, q63_41, q63_42, q63_43, q63_46, q63_47, q63_48, q63_51, q63_52, W_1, W_I, W_mk, W_tk, pm_rv, rf_0_0, rf_0_1, rf_0_2, rf_0_3, rf_0_4, rf_0_7, rf_0_8, rf_1_0, rf_1_2, rf_3_0, rf_3_1, rf_3_6, rf_3_7, rf_3_8, rf_9_0, rf_9_1, rf_10_0, rf_10_1, rf_10_6, rf_10_7, rf_10_8, rf_17_0, rf_17_1, rf_538_2, rf_538_6, rf_538_7, rf_538_9, rf_538_11, rf_538_12, rf_538_18, rf_538_19, rf_538_22, rf_538_23, rf_538_25, rf_538_27, rf_538_28, rf_538_30, rf_538_31, rf_538_32, rf_538_33, rf_538_34, rf_538_35, rf_538_36, ob_0, ob_1, ob_3, ob_9, ob_10, ob_17, ob_538, ar_2, ar_4, ar_5, ar_6, ar_7, ar_8, ar_11, ar_12, ar_13, ar_14, ar_15, ar_16, ar_116, ar_117, ar_539, ar_540, ar_541, ar_542, ar_543, ar_544, ar_545, ar_546, ar_547, ar_548, ar_549, ar_550, ar_551, ar_552, ar_553, ar_554, ar_555, ar_556, ar_557, ar_558, ex_eq, ex_ite, pm_bk_r, pm_bk_t, ol_nil, ol_one, true_and, and_true, false_and, and_false, reduceIte, Nat.reduceEqDiff, up_at, Nat.add_left_cancel_iff, h24, bI]
  | some P =>
    rw [hD] at h24
    have h24 : I 538 24 = 1 := h24
    obtain ⟨G, hG, hok, hPA⟩ := hA.g hD
    have hgm : GM G I := by have := h.2.2.1; rw [hG] at this; exact this.2
    have hsr : nI G.2.1 * nI G.2.2.1 = nI (g_n G) := sm_mul _ _
    have hn := g_n24 hok
    have ho : o_put S c p = if (¬ c < 0 ∧ c < nI (g_n G)) ∧ (¬ p < 0 ∧ p < 6) then ((S.1, some G, some (a_go P c.toNatClampNeg p.toNatClampNeg), S.2.2.2.1, -1), true) else (S, false) := by unfold o_put; rw [hG, hD]
    rw [ho]
    by_cases c0 : c < 0
    · rw [if_neg (fun q => q.1.1 c0)]
      refine ⟨_, ht.1, ht.2, up_eq, fun q => ?_⟩
      show pm_C (d + 3) 63 _ _ q ↔ _
      rw [n63]
      simp (decide := true) only [q63_0, q63_1, q63_2, q63_5, q63_6, q63_9, q63_12, q63_13, q63_16, q63_17, q63_18, q63_21, q63_22, q63_25, q63_26, q63_29, q63_30, q63_33, q63_34, q63_35, q63_38, q63_39, q63_40, q63_41, q63_42, q63_43, q63_46, q63_47, q63_48, q63_51, q63_52, W_1, W_I, W_mk, W_tk, pm_rv, rf_0_0, rf_0_1, rf_0_2, rf_0_3, rf_0_4, rf_0_7, rf_0_8, rf_1_0, rf_1_2, rf_3_0, rf_3_1, rf_3_6, rf_3_7, rf_3_8, rf_9_0, rf_9_1, rf_10_0, rf_10_1, rf_10_6, rf_10_7, rf_10_8, rf_17_0, rf_17_1, rf_538_2, rf_538_6, rf_538_7, rf_538_9, rf_538_11, rf_538_12, rf_538_18, rf_538_19, rf_538_22, rf_538_23, rf_538_25, rf_538_27, rf_538_28, rf_538_30, rf_538_31, rf_538_32, rf_538_33, rf_538_34, rf_538_35, rf_538_36, ob_0, ob_1, ob_3, ob_9, ob_10, ob_17, ob_538, ar_2, ar_4, ar_5, ar_6, ar_7, ar_8, ar_11, ar_12, ar_13, ar_14, ar_15, ar_16, ar_116, ar_117, ar_539, ar_540, ar_541, ar_542, ar_543, ar_544, ar_545, ar_546, ar_547, ar_548, ar_549, ar_550, ar_551, ar_552, ar_553, ar_554, ar_555, ar_556, ar_557, ar_558, ex_eq, ex_ite, pm_bk_r, pm_bk_t, ol_nil, ol_one, true_and, and_true, false_and, and_false, reduceIte, Nat.reduceEqDiff, up_at, Nat.add_left_cancel_iff, h24, c0, bI]
    · by_cases c1 : c < nI (g_n G)
      · by_cases p0 : p < 0
        · rw [if_neg (fun q => q.2.1 p0)]
          refine ⟨_, ht.1, ht.2, up_eq, fun q => ?_⟩
          show pm_C (d + 3) 63 _ _ q ↔ _
          rw [n63]
          simp (decide := true) only [q63_0, q63_1, q63_2, q63_5, q63_6, q63_9, q63_12, q63_13, q63_16, q63_17, q63_18, q63_21, q63_22, q63_25, q63_26, q63_29, q63_30, q63_33, q63_34, q63_35, q63_38, q63_39, q63_40, q63_41, q63_42, q63_43, q63_46, q63_47, q63_48, q63_51, q63_52, W_1, W_I, W_mk, W_tk, pm_rv, rf_0_0, rf_0_1, rf_0_2, rf_0_3, rf_0_4, rf_0_7, rf_0_8, rf_1_0, rf_1_2, rf_3_0, rf_3_1, rf_3_6, rf_3_7, rf_3_8, rf_9_0, rf_9_1, rf_10_0, rf_10_1, rf_10_6, rf_10_7, rf_10_8, rf_17_0, rf_17_1, rf_538_2, rf_538_6, rf_538_7, rf_538_9, rf_538_11, rf_538_12, rf_538_18, rf_538_19, rf_538_22, rf_538_23, rf_538_25, rf_538_27, rf_538_28, rf_538_30, rf_538_31, rf_538_32, rf_538_33, rf_538_34, rf_538_35, rf_538_36, ob_0, ob_1, ob_3, ob_9, ob_10, ob_17, ob_538, ar_2, ar_4, ar_5, ar_6, ar_7, ar_8, ar_11, ar_12, ar_13, ar_14, ar_15, ar_16, ar_116, ar_117, ar_539, ar_540, ar_541, ar_542, ar_543, ar_544, ar_545, ar_546, ar_547, ar_548, ar_549, ar_550, ar_551, ar_552, ar_553, ar_554, ar_555, ar_556, ar_557, ar_558, ex_eq, ex_ite, pm_bk_r, pm_bk_t, ol_nil, ol_one, true_and, and_true, false_and, and_false, reduceIte, Nat.reduceEqDiff, up_at, Nat.add_left_cancel_iff, h24, c0, hgm.2.1, hgm.2.2.1, hsr, c1, p0, bI]
        · by_cases p1 : p < 6
          · rw [if_pos ⟨⟨c0, c1⟩, p0, p1⟩]
            have hc := nn_nI c0
            have hcl : c.toNatClampNeg < g_n G := by
              rw [hc.1, sm_lt hc.2 (by omega)] at c1
              exact c1
            have hp := p6 p0 p1
            have hMF := ht.1.2.2.2.2.2.1 P hD
            obtain ⟨J, g1, g2, g3⟩ := c51 (d := d) (k := k) (o := o) hMF.1 hPA.1 (show c.toNatClampNeg < 24 by omega) hp.2
            rw [← hc.1, ← hp.1] at g3
            obtain ⟨J2, hJ2⟩ : ∃ J2, J2 = pm_up J 538 37 (-1) := ⟨_, rfl⟩
            have s : ∀ x j, ¬ (x = 538 ∧ (j = 37 ∨ j = 0)) → x ≠ 549 → J2 x j = I x j := fun x j a b => by rw [hJ2, up_ne (by omega), g2.1 x b, up_ne (by omega)]
            obtain ⟨x1, ⟨W, x2⟩, x3, x4, x5, x6, x7, x8⟩ := h
            refine ⟨J2, ⟨⟨by rw [s _ _ (by omega) (by omega)]; exact x1.1, fun i hi => by rw [s _ _ (by omega) (by omega)]; exact x1.2 i hi⟩, ⟨W, x2.cg (s _ _ (by omega) (by omega)) (by funext j; exact s _ _ (by omega) (by omega))⟩, ?_, ?_, ?_, fun P' hP' => ?_, fun h' hh' => (x7 h' hh').row (by funext j; exact s _ _ (by omega) (by omega)), ?_⟩, fun x hx => by funext j; exact s _ _ (by omega) (by omega), ?_, fun q => ?_⟩
            · rw [hG] at x3
              exact ⟨by rw [s _ _ (by omega) (by omega)]; exact x3.1, x3.2.congr (fun j _ _ => s _ _ (by omega) (by omega)) (fun x a b => by funext j; exact s _ _ (by omega) (by omega))⟩
            · rw [s _ _ (by omega) (by omega)]; exact h24
            · rw [s _ _ (by omega) (by omega)]; exact x5
            · injection hP' with hP'
              rw [← hP']
              refine MF.row ⟨g1, ?_⟩ (by rw [hJ2, up_row (by omega)])
              show J 549 (0 + 12) = nI P.2.2.2
              rw [Nat.zero_add, g2.2]
              have := hMF.2
              rwa [Nat.zero_add] at this
            · rw [hJ2, up_eq]
            · rw [hJ2, up_ne (by omega), g2.1 538 (by omega), up_eq]
            · show pm_C (d + 3) 63 _ _ q ↔ _
              rw [n63]
              simp (decide := true) only [q63_0, q63_1, q63_2, q63_5, q63_6, q63_9, q63_12, q63_13, q63_16, q63_17, q63_18, q63_21, q63_22, q63_25, q63_26, q63_29, q63_30, q63_33, q63_34, q63_35, q63_38, q63_39, q63_40, q63_41, q63_42, q63_43, q63_46, q63_47, q63_48, q63_51, q63_52, W_1, W_I, W_mk, W_tk, pm_rv, rf_0_0, rf_0_1, rf_0_2, rf_0_3, rf_0_4, rf_0_7, rf_0_8, rf_1_0, rf_1_2, rf_3_0, rf_3_1, rf_3_6, rf_3_7, rf_3_8, rf_9_0, rf_9_1, rf_10_0, rf_10_1, rf_10_6, rf_10_7, rf_10_8, rf_17_0, rf_17_1, rf_538_2, rf_538_6, rf_538_7, rf_538_9, rf_538_11, rf_538_12, rf_538_18, rf_538_19, rf_538_22, rf_538_23, rf_538_25, rf_538_27, rf_538_28, rf_538_30, rf_538_31, rf_538_32, rf_538_33, rf_538_34, rf_538_35, rf_538_36, ob_0, ob_1, ob_3, ob_9, ob_10, ob_17, ob_538, ar_2, ar_4, ar_5, ar_6, ar_7, ar_8, ar_11, ar_12, ar_13, ar_14, ar_15, ar_16, ar_116, ar_117, ar_539, ar_540, ar_541, ar_542, ar_543, ar_544, ar_545, ar_546, ar_547, ar_548, ar_549, ar_550, ar_551, ar_552, ar_553, ar_554, ar_555, ar_556, ar_557, ar_558, ex_eq, ex_ite, pm_bk_r, pm_bk_t, ol_nil, ol_one, true_and, and_true, false_and, and_false, reduceIte, Nat.reduceEqDiff, up_at, Nat.add_left_cancel_iff, h24, c0, hgm.2.1, hgm.2.2.1, hsr, c1, p0, e5, p1, g3, bI, not_true_eq_false]
              rw [hJ2]
          · rw [if_neg (fun q => p1 q.2.2)]
            refine ⟨_, ht.1, ht.2, up_eq, fun q => ?_⟩
            show pm_C (d + 3) 63 _ _ q ↔ _
            rw [n63]
            simp (decide := true) only [q63_0, q63_1, q63_2, q63_5, q63_6, q63_9, q63_12, q63_13, q63_16, q63_17, q63_18, q63_21, q63_22, q63_25, q63_26, q63_29, q63_30, q63_33, q63_34, q63_35, q63_38, q63_39, q63_40, q63_41, q63_42, q63_43, q63_46, q63_47, q63_48, q63_51, q63_52, W_1, W_I, W_mk, W_tk, pm_rv, rf_0_0, rf_0_1, rf_0_2, rf_0_3, rf_0_4, rf_0_7, rf_0_8, rf_1_0, rf_1_2, rf_3_0, rf_3_1, rf_3_6, rf_3_7, rf_3_8, rf_9_0, rf_9_1, rf_10_0, rf_10_1, rf_10_6, rf_10_7, rf_10_8, rf_17_0, rf_17_1, rf_538_2, rf_538_6, rf_538_7, rf_538_9, rf_538_11, rf_538_12, rf_538_18, rf_538_19, rf_538_22, rf_538_23, rf_538_25, rf_538_27, rf_538_28, rf_538_30, rf_538_31, rf_538_32, rf_538_33, rf_538_34, rf_538_35, rf_538_36, ob_0, ob_1, ob_3, ob_9, ob_10, ob_17, ob_538, ar_2, ar_4, ar_5, ar_6, ar_7, ar_8, ar_11, ar_12, ar_13, ar_14, ar_15, ar_16, ar_116, ar_117, ar_539, ar_540, ar_541, ar_542, ar_543, ar_544, ar_545, ar_546, ar_547, ar_548, ar_549, ar_550, ar_551, ar_552, ar_553, ar_554, ar_555, ar_556, ar_557, ar_558, ex_eq, ex_ite, pm_bk_r, pm_bk_t, ol_nil, ol_one, true_and, and_true, false_and, and_false, reduceIte, Nat.reduceEqDiff, up_at, Nat.add_left_cancel_iff, h24, c0, hgm.2.1, hgm.2.2.1, hsr, c1, p0, e5, p1, bI, not_false_eq_true]
      · rw [if_neg (fun q => c1 q.1.2)]
        refine ⟨_, ht.1, ht.2, up_eq, fun q => ?_⟩
        show pm_C (d + 3) 63 _ _ q ↔ _
        rw [n63]
        simp (decide := true) only [q63_0, q63_1, q63_2, q63_5, q63_6, q63_9, q63_12, q63_13, q63_16, q63_17, q63_18, q63_21, q63_22, q63_25, q63_26, q63_29, q63_30, q63_33, q63_34, q63_35, q63_38, q63_39, q63_40, q63_41, q63_42, q63_43, q63_46, q63_47, q63_48, q63_51, q63_52, W_1, W_I, W_mk, W_tk, pm_rv, rf_0_0, rf_0_1, rf_0_2, rf_0_3, rf_0_4, rf_0_7, rf_0_8, rf_1_0, rf_1_2, rf_3_0, rf_3_1, rf_3_6, rf_3_7, rf_3_8, rf_9_0, rf_9_1, rf_10_0, rf_10_1, rf_10_6, rf_10_7, rf_10_8, rf_17_0, rf_17_1, rf_538_2, rf_538_6, rf_538_7, rf_538_9, rf_538_11, rf_538_12, rf_538_18, rf_538_19, rf_538_22, rf_538_23, rf_538_25, rf_538_27, rf_538_28, rf_538_30, rf_538_31, rf_538_32, rf_538_33, rf_538_34, rf_538_35, rf_538_36, ob_0, ob_1, ob_3, ob_9, ob_10, ob_17, ob_538, ar_2, ar_4, ar_5, ar_6, ar_7, ar_8, ar_11, ar_12, ar_13, ar_14, ar_15, ar_16, ar_116, ar_117, ar_539, ar_540, ar_541, ar_542, ar_543, ar_544, ar_545, ar_546, ar_547, ar_548, ar_549, ar_550, ar_551, ar_552, ar_553, ar_554, ar_555, ar_556, ar_557, ar_558, ex_eq, ex_ite, pm_bk_r, pm_bk_t, ol_nil, ol_one, true_and, and_true, false_and, and_false, reduceIte, Nat.reduceEqDiff, up_at, Nat.add_left_cancel_iff, h24, c0, hgm.2.1, hgm.2.2.1, hsr, c1, bI]
theorem m69 (hA : AOK S) (h : MI S I) {p i : Int32} : MOK S 0 (o_card S p i) I k o (fun M q => pm_C (d + 2) 69 [.ref 538, .int p, .int i] M q) := by
  have h24 := h.2.2.2.1
  have ht := h.th 0
  have e5 : (5 < p) ↔ ¬ p < 6 := by
    rw [Int32.lt_iff_toInt_lt, Int32.lt_iff_toInt_lt]
    have e5 : (5 : Int32).toInt = 5 := by decide
    have e6 : (6 : Int32).toInt = 6 := by decide
    omega
  refine ⟨_, ht.1, ht.2, up_eq, fun q => ?_⟩
  show pm_C (d + 2) 69 _ _ q ↔ _
  unfold o_card
  rw [n69]
  cases hD : S.2.2.1 with
  | none =>
    rw [hD] at h24
    have h24 : I 538 24 = 0 := h24
    simp (decide := true) only [q69_0, q69_1, q69_2, q69_5, q69_6, q69_9, q69_12, q69_13, q69_16, q69_17, q69_18, q69_21, q69_22, q69_23, q69_24, q69_25, q69_28, q69_29, q69_32, q69_33, q69_34, q69_37, q69_38, q69_41, q69_42, q69_43, q69_46, q69_47, q69_48, q69_51, q69_52, q69_55, q69_56, q69_59, q69_60, q69_61, q69_64, q69_65, W_1, W_I, W_mk, W_tk, pm_rv, rf_0_0, rf_0_1, rf_0_2, rf_0_3, rf_0_4, rf_0_7, rf_0_8, rf_1_0, rf_1_2, rf_3_0, rf_3_1, rf_3_6, rf_3_7, rf_3_8, rf_9_0, rf_9_1, rf_10_0, rf_10_1, rf_10_6, rf_10_7, rf_10_8, rf_17_0, rf_17_1, rf_538_2, rf_538_6, rf_538_7, rf_538_9, rf_538_11, rf_538_12, rf_538_18, rf_538_19, rf_538_22, rf_538_23, rf_538_25, rf_538_27, rf_538_28, rf_538_30, rf_538_31, rf_538_32, rf_538_33, rf_538_34, rf_538_35, rf_538_36, ob_0, ob_1, ob_3, ob_9, ob_10, ob_17, ob_538, ar_2, ar_4, ar_5, ar_6, ar_7, ar_8, ar_11, ar_12, ar_13, ar_14, ar_15, ar_16, ar_116, ar_117, ar_539, ar_540, ar_541, ar_542, ar_543, ar_544, ar_545, ar_546, ar_547, ar_548, ar_549, ar_550, ar_551, ar_552, ar_553, ar_554, ar_555, ar_556, ar_557, ar_558, ex_eq, ex_ite, pm_bk_r, pm_bk_t, ol_nil, ol_one, true_and, and_true, false_and, and_false, reduceIte, Nat.reduceEqDiff, up_at, Nat.add_left_cancel_iff, h24]
  | some P =>
    rw [hD] at h24
    have h24 : I 538 24 = 1 := h24
    obtain ⟨G, hG, hok, hPA⟩ := hA.g hD
    have hMF := h.2.2.2.2.2.1 P hD
    by_cases p0 : p < 0
    · simp (decide := true) only [q69_0, q69_1, q69_2, q69_5, q69_6, q69_9, q69_12, q69_13, q69_16, q69_17, q69_18, q69_21, q69_22, q69_23, q69_24, q69_25, q69_28, q69_29, q69_32, q69_33, q69_34, q69_37, q69_38, q69_41, q69_42, q69_43, q69_46, q69_47, q69_48, q69_51, q69_52, q69_55, q69_56, q69_59, q69_60, q69_61, q69_64, q69_65, W_1, W_I, W_mk, W_tk, pm_rv, rf_0_0, rf_0_1, rf_0_2, rf_0_3, rf_0_4, rf_0_7, rf_0_8, rf_1_0, rf_1_2, rf_3_0, rf_3_1, rf_3_6, rf_3_7, rf_3_8, rf_9_0, rf_9_1, rf_10_0, rf_10_1, rf_10_6, rf_10_7, rf_10_8, rf_17_0, rf_17_1, rf_538_2, rf_538_6, rf_538_7, rf_538_9, rf_538_11, rf_538_12, rf_538_18, rf_538_19, rf_538_22, rf_538_23, rf_538_25, rf_538_27, rf_538_28, rf_538_30, rf_538_31, rf_538_32, rf_538_33, rf_538_34, rf_538_35, rf_538_36, ob_0, ob_1, ob_3, ob_9, ob_10, ob_17, ob_538, ar_2, ar_4, ar_5, ar_6, ar_7, ar_8, ar_11, ar_12, ar_13, ar_14, ar_15, ar_16, ar_116, ar_117, ar_539, ar_540, ar_541, ar_542, ar_543, ar_544, ar_545, ar_546, ar_547, ar_548, ar_549, ar_550, ar_551, ar_552, ar_553, ar_554, ar_555, ar_556, ar_557, ar_558, ex_eq, ex_ite, pm_bk_r, pm_bk_t, ol_nil, ol_one, true_and, and_true, false_and, and_false, reduceIte, Nat.reduceEqDiff, up_at, Nat.add_left_cancel_iff, h24, p0, not_true_eq_false]
    · by_cases p1 : p < 6
      · have hp := p6 p0 p1
        have hin : vp_in p 157 ↔ True := iff_true_intro (by rw [hp.1]; exact (sm_in (by omega)).mpr (by omega))
        have hsz : I 549 p.toNatClampNeg = nI (P.1 p.toNatClampNeg).length := hMF.1.len hp.2
        have hpl := hPA.1.pl _ hp.2
        by_cases i1 : i = -1
        · simp (decide := true) only [q69_0, q69_1, q69_2, q69_5, q69_6, q69_9, q69_12, q69_13, q69_16, q69_17, q69_18, q69_21, q69_22, q69_23, q69_24, q69_25, q69_28, q69_29, q69_32, q69_33, q69_34, q69_37, q69_38, q69_41, q69_42, q69_43, q69_46, q69_47, q69_48, q69_51, q69_52, q69_55, q69_56, q69_59, q69_60, q69_61, q69_64, q69_65, W_1, W_I, W_mk, W_tk, pm_rv, rf_0_0, rf_0_1, rf_0_2, rf_0_3, rf_0_4, rf_0_7, rf_0_8, rf_1_0, rf_1_2, rf_3_0, rf_3_1, rf_3_6, rf_3_7, rf_3_8, rf_9_0, rf_9_1, rf_10_0, rf_10_1, rf_10_6, rf_10_7, rf_10_8, rf_17_0, rf_17_1, rf_538_2, rf_538_6, rf_538_7, rf_538_9, rf_538_11, rf_538_12, rf_538_18, rf_538_19, rf_538_22, rf_538_23, rf_538_25, rf_538_27, rf_538_28, rf_538_30, rf_538_31, rf_538_32, rf_538_33, rf_538_34, rf_538_35, rf_538_36, ob_0, ob_1, ob_3, ob_9, ob_10, ob_17, ob_538, ar_2, ar_4, ar_5, ar_6, ar_7, ar_8, ar_11, ar_12, ar_13, ar_14, ar_15, ar_16, ar_116, ar_117, ar_539, ar_540, ar_541, ar_542, ar_543, ar_544, ar_545, ar_546, ar_547, ar_548, ar_549, ar_550, ar_551, ar_552, ar_553, ar_554, ar_555, ar_556, ar_557, ar_558, ex_eq, ex_ite, pm_bk_r, pm_bk_t, ol_nil, ol_one, true_and, and_true, false_and, and_false, reduceIte, Nat.reduceEqDiff, up_at, Nat.add_left_cancel_iff, h24, p0, e5, p1, i1, hin, hsz, not_false_eq_true, not_true_eq_false]
        · unfold a_at
          by_cases i0 : i < 0
          · simp (decide := true) only [q69_0, q69_1, q69_2, q69_5, q69_6, q69_9, q69_12, q69_13, q69_16, q69_17, q69_18, q69_21, q69_22, q69_23, q69_24, q69_25, q69_28, q69_29, q69_32, q69_33, q69_34, q69_37, q69_38, q69_41, q69_42, q69_43, q69_46, q69_47, q69_48, q69_51, q69_52, q69_55, q69_56, q69_59, q69_60, q69_61, q69_64, q69_65, W_1, W_I, W_mk, W_tk, pm_rv, rf_0_0, rf_0_1, rf_0_2, rf_0_3, rf_0_4, rf_0_7, rf_0_8, rf_1_0, rf_1_2, rf_3_0, rf_3_1, rf_3_6, rf_3_7, rf_3_8, rf_9_0, rf_9_1, rf_10_0, rf_10_1, rf_10_6, rf_10_7, rf_10_8, rf_17_0, rf_17_1, rf_538_2, rf_538_6, rf_538_7, rf_538_9, rf_538_11, rf_538_12, rf_538_18, rf_538_19, rf_538_22, rf_538_23, rf_538_25, rf_538_27, rf_538_28, rf_538_30, rf_538_31, rf_538_32, rf_538_33, rf_538_34, rf_538_35, rf_538_36, ob_0, ob_1, ob_3, ob_9, ob_10, ob_17, ob_538, ar_2, ar_4, ar_5, ar_6, ar_7, ar_8, ar_11, ar_12, ar_13, ar_14, ar_15, ar_16, ar_116, ar_117, ar_539, ar_540, ar_541, ar_542, ar_543, ar_544, ar_545, ar_546, ar_547, ar_548, ar_549, ar_550, ar_551, ar_552, ar_553, ar_554, ar_555, ar_556, ar_557, ar_558, ex_eq, ex_ite, pm_bk_r, pm_bk_t, ol_nil, ol_one, true_and, and_true, false_and, and_false, reduceIte, Nat.reduceEqDiff, up_at, Nat.add_left_cancel_iff, h24, p0, e5, p1, i1, i0, not_false_eq_true, not_true_eq_false]
          · by_cases il : i < nI (P.1 p.toNatClampNeg).length
            · have hi := nn_nI i0
              have hlt : i.toNatClampNeg < (P.1 p.toNatClampNeg).length := by
                rw [hi.1, sm_lt hi.2 (by omega)] at il
                exact il
              have h49 : ∀ {M : pm_Mem} (q : pm_Res), (pm_C (d + 1) 49 [.int p, .int i] M q ↔ q = (.inl (some (.int (nI (13 + 24 * p.toNatClampNeg + i.toNatClampNeg)))), M)) := fun {M} q => by
                have := c49 (d := d) (p := p.toNatClampNeg) (i := i.toNatClampNeg) (M := M) (q := q)
                rw [← hp.1, ← hi.1] at this
                exact this
              have hcr := hMF.1.crd hp.2 hlt
              simp (decide := true) only [q69_0, q69_1, q69_2, q69_5, q69_6, q69_9, q69_12, q69_13, q69_16, q69_17, q69_18, q69_21, q69_22, q69_23, q69_24, q69_25, q69_28, q69_29, q69_32, q69_33, q69_34, q69_37, q69_38, q69_41, q69_42, q69_43, q69_46, q69_47, q69_48, q69_51, q69_52, q69_55, q69_56, q69_59, q69_60, q69_61, q69_64, q69_65, W_1, W_I, W_mk, W_tk, pm_rv, rf_0_0, rf_0_1, rf_0_2, rf_0_3, rf_0_4, rf_0_7, rf_0_8, rf_1_0, rf_1_2, rf_3_0, rf_3_1, rf_3_6, rf_3_7, rf_3_8, rf_9_0, rf_9_1, rf_10_0, rf_10_1, rf_10_6, rf_10_7, rf_10_8, rf_17_0, rf_17_1, rf_538_2, rf_538_6, rf_538_7, rf_538_9, rf_538_11, rf_538_12, rf_538_18, rf_538_19, rf_538_22, rf_538_23, rf_538_25, rf_538_27, rf_538_28, rf_538_30, rf_538_31, rf_538_32, rf_538_33, rf_538_34, rf_538_35, rf_538_36, ob_0, ob_1, ob_3, ob_9, ob_10, ob_17, ob_538, ar_2, ar_4, ar_5, ar_6, ar_7, ar_8, ar_11, ar_12, ar_13, ar_14, ar_15, ar_16, ar_116, ar_117, ar_539, ar_540, ar_541, ar_542, ar_543, ar_544, ar_545, ar_546, ar_547, ar_548, ar_549, ar_550, ar_551, ar_552, ar_553, ar_554, ar_555, ar_556, ar_557, ar_558, ex_eq, ex_ite, pm_bk_r, pm_bk_t, ol_nil, ol_one, true_and, and_true, false_and, and_false, reduceIte, Nat.reduceEqDiff, up_at, Nat.add_left_cancel_iff, h24, p0, e5, p1, i1, i0, hin, hsz, il, h49, sm_in (show 13 + 24 * p.toNatClampNeg + i.toNatClampNeg < 2147483648 by omega), show 13 + 24 * p.toNatClampNeg + i.toNatClampNeg < 157 by omega, sm_cl (show 13 + 24 * p.toNatClampNeg + i.toNatClampNeg < 2147483648 by omega), hcr, not_false_eq_true, not_true_eq_false]
            · simp (decide := true) only [q69_0, q69_1, q69_2, q69_5, q69_6, q69_9, q69_12, q69_13, q69_16, q69_17, q69_18, q69_21, q69_22, q69_23, q69_24, q69_25, q69_28, q69_29, q69_32, q69_33, q69_34, q69_37, q69_38, q69_41, q69_42, q69_43, q69_46, q69_47, q69_48, q69_51, q69_52, q69_55, q69_56, q69_59, q69_60, q69_61, q69_64, q69_65, W_1, W_I, W_mk, W_tk, pm_rv, rf_0_0, rf_0_1, rf_0_2, rf_0_3, rf_0_4, rf_0_7, rf_0_8, rf_1_0, rf_1_2, rf_3_0, rf_3_1, rf_3_6, rf_3_7, rf_3_8, rf_9_0, rf_9_1, rf_10_0, rf_10_1, rf_10_6, rf_10_7, rf_10_8, rf_17_0, rf_17_1, rf_538_2, rf_538_6, rf_538_7, rf_538_9, rf_538_11, rf_538_12, rf_538_18, rf_538_19, rf_538_22, rf_538_23, rf_538_25, rf_538_27, rf_538_28, rf_538_30, rf_538_31, rf_538_32, rf_538_33, rf_538_34, rf_538_35, rf_538_36, ob_0, ob_1, ob_3, ob_9, ob_10, ob_17, ob_538, ar_2, ar_4, ar_5, ar_6, ar_7, ar_8, ar_11, ar_12, ar_13, ar_14, ar_15, ar_16, ar_116, ar_117, ar_539, ar_540, ar_541, ar_542, ar_543, ar_544, ar_545, ar_546, ar_547, ar_548, ar_549, ar_550, ar_551, ar_552, ar_553, ar_554, ar_555, ar_556, ar_557, ar_558, ex_eq, ex_ite, pm_bk_r, pm_bk_t, ol_nil, ol_one, true_and, and_true, false_and, and_false, reduceIte, Nat.reduceEqDiff, up_at, Nat.add_left_cancel_iff, h24, p0, e5, p1, i1, i0, hin, hsz, il, not_false_eq_true, not_true_eq_false]
      · simp (decide := true) only [q69_0, q69_1, q69_2, q69_5, q69_6, q69_9, q69_12, q69_13, q69_16, q69_17, q69_18, q69_21, q69_22, q69_23, q69_24, q69_25, q69_28, q69_29, q69_32, q69_33, q69_34, q69_37, q69_38, q69_41, q69_42, q69_43, q69_46, q69_47, q69_48, q69_51, q69_52, q69_55, q69_56, q69_59, q69_60, q69_61, q69_64, q69_65, W_1, W_I, W_mk, W_tk, pm_rv, rf_0_0, rf_0_1, rf_0_2, rf_0_3, rf_0_4, rf_0_7, rf_0_8, rf_1_0, rf_1_2, rf_3_0, rf_3_1, rf_3_6, rf_3_7, rf_3_8, rf_9_0, rf_9_1, rf_10_0, rf_10_1, rf_10_6, rf_10_7, rf_10_8, rf_17_0, rf_17_1, rf_538_2, rf_538_6, rf_538_7, rf_538_9, rf_538_11, rf_538_12, rf_538_18, rf_538_19, rf_538_22, rf_538_23, rf_538_25, rf_538_27, rf_538_28, rf_538_30, rf_538_31, rf_538_32, rf_538_33, rf_538_34, rf_538_35, rf_538_36, ob_0, ob_1, ob_3, ob_9, ob_10, ob_17, ob_538, ar_2, ar_4, ar_5, ar_6, ar_7, ar_8, ar_11, ar_12, ar_13, ar_14, ar_15, ar_16, ar_116, ar_117, ar_539, ar_540, ar_541, ar_542, ar_543, ar_544, ar_545, ar_546, ar_547, ar_548, ar_549, ar_550, ar_551, ar_552, ar_553, ar_554, ar_555, ar_556, ar_557, ar_558, ex_eq, ex_ite, pm_bk_r, pm_bk_t, ol_nil, ol_one, true_and, and_true, false_and, and_false, reduceIte, Nat.reduceEqDiff, up_at, Nat.add_left_cancel_iff, h24, p0, e5, p1, not_false_eq_true]
theorem m70 (hA : AOK S) (h : MI S I) {s p i : Int32} : MOK S 0 (o_seen S s p i) I k o (fun M q => pm_C (d + 3) 70 [.ref 538, .int s, .int p, .int i] M q) := by
  have ht := h.th 0
  have es : (1 < s) ↔ ¬ s < 2 := by
    rw [Int32.lt_iff_toInt_lt, Int32.lt_iff_toInt_lt]
    have e5 : (1 : Int32).toInt = 1 := by decide
    have e6 : (2 : Int32).toInt = 2 := by decide
    omega
  obtain ⟨J, g1, g2, g3, g4⟩ := m69 (d := d) (k := k) (o := o) (p := p) (i := i) hA ht.1
  have g4' : ∀ q, (pm_C (d + 2) 69 [.ref 538, .int p, .int i] (Wm (pm_up I 538 0 0) k o) q ↔ q = (.inl (some (.int (o_card S p i))), Wm J k o)) := g4
  unfold o_seen
  by_cases s0 : s < 0
  · rw [if_pos (Or.inl s0)]
    refine ⟨_, ht.1, ht.2, up_eq, fun q => ?_⟩
    show pm_C (d + 3) 70 _ _ q ↔ _
    rw [n70]
    by_cases i1 : i = -1
    · simp (decide := true) only [q70_0, q70_1, q70_2, q70_5, q70_6, q70_7, q70_10, q70_11, q70_12, q70_15, q70_16, q70_17, q70_18, q70_19, q70_22, q70_23, q70_26, q70_27, q70_29, q70_30, q70_33, q70_34, q70_35, q70_38, q70_40, q70_43, q70_44, q70_47, q70_48, q70_49, q70_50, q70_53, W_1, W_I, W_mk, W_tk, pm_rv, rf_0_0, rf_0_1, rf_0_2, rf_0_3, rf_0_4, rf_0_7, rf_0_8, rf_1_0, rf_1_2, rf_3_0, rf_3_1, rf_3_6, rf_3_7, rf_3_8, rf_9_0, rf_9_1, rf_10_0, rf_10_1, rf_10_6, rf_10_7, rf_10_8, rf_17_0, rf_17_1, rf_538_2, rf_538_6, rf_538_7, rf_538_9, rf_538_11, rf_538_12, rf_538_18, rf_538_19, rf_538_22, rf_538_23, rf_538_25, rf_538_27, rf_538_28, rf_538_30, rf_538_31, rf_538_32, rf_538_33, rf_538_34, rf_538_35, rf_538_36, ob_0, ob_1, ob_3, ob_9, ob_10, ob_17, ob_538, ar_2, ar_4, ar_5, ar_6, ar_7, ar_8, ar_11, ar_12, ar_13, ar_14, ar_15, ar_16, ar_116, ar_117, ar_539, ar_540, ar_541, ar_542, ar_543, ar_544, ar_545, ar_546, ar_547, ar_548, ar_549, ar_550, ar_551, ar_552, ar_553, ar_554, ar_555, ar_556, ar_557, ar_558, ex_eq, ex_ite, pm_bk_r, pm_bk_t, ol_nil, ol_one, true_and, and_true, false_and, and_false, reduceIte, Nat.reduceEqDiff, up_at, Nat.add_left_cancel_iff, s0, i1]
    · by_cases h2 : p = 2
      · simp (decide := true) only [q70_0, q70_1, q70_2, q70_5, q70_6, q70_7, q70_10, q70_11, q70_12, q70_15, q70_16, q70_17, q70_18, q70_19, q70_22, q70_23, q70_26, q70_27, q70_29, q70_30, q70_33, q70_34, q70_35, q70_38, q70_40, q70_43, q70_44, q70_47, q70_48, q70_49, q70_50, q70_53, W_1, W_I, W_mk, W_tk, pm_rv, rf_0_0, rf_0_1, rf_0_2, rf_0_3, rf_0_4, rf_0_7, rf_0_8, rf_1_0, rf_1_2, rf_3_0, rf_3_1, rf_3_6, rf_3_7, rf_3_8, rf_9_0, rf_9_1, rf_10_0, rf_10_1, rf_10_6, rf_10_7, rf_10_8, rf_17_0, rf_17_1, rf_538_2, rf_538_6, rf_538_7, rf_538_9, rf_538_11, rf_538_12, rf_538_18, rf_538_19, rf_538_22, rf_538_23, rf_538_25, rf_538_27, rf_538_28, rf_538_30, rf_538_31, rf_538_32, rf_538_33, rf_538_34, rf_538_35, rf_538_36, ob_0, ob_1, ob_3, ob_9, ob_10, ob_17, ob_538, ar_2, ar_4, ar_5, ar_6, ar_7, ar_8, ar_11, ar_12, ar_13, ar_14, ar_15, ar_16, ar_116, ar_117, ar_539, ar_540, ar_541, ar_542, ar_543, ar_544, ar_545, ar_546, ar_547, ar_548, ar_549, ar_550, ar_551, ar_552, ar_553, ar_554, ar_555, ar_556, ar_557, ar_558, ex_eq, ex_ite, pm_bk_r, pm_bk_t, ol_nil, ol_one, true_and, and_true, false_and, and_false, reduceIte, Nat.reduceEqDiff, up_at, Nat.add_left_cancel_iff, s0, i1, h2]
      · by_cases h3 : p = 1 - s
        · simp (decide := true) only [q70_0, q70_1, q70_2, q70_5, q70_6, q70_7, q70_10, q70_11, q70_12, q70_15, q70_16, q70_17, q70_18, q70_19, q70_22, q70_23, q70_26, q70_27, q70_29, q70_30, q70_33, q70_34, q70_35, q70_38, q70_40, q70_43, q70_44, q70_47, q70_48, q70_49, q70_50, q70_53, W_1, W_I, W_mk, W_tk, pm_rv, rf_0_0, rf_0_1, rf_0_2, rf_0_3, rf_0_4, rf_0_7, rf_0_8, rf_1_0, rf_1_2, rf_3_0, rf_3_1, rf_3_6, rf_3_7, rf_3_8, rf_9_0, rf_9_1, rf_10_0, rf_10_1, rf_10_6, rf_10_7, rf_10_8, rf_17_0, rf_17_1, rf_538_2, rf_538_6, rf_538_7, rf_538_9, rf_538_11, rf_538_12, rf_538_18, rf_538_19, rf_538_22, rf_538_23, rf_538_25, rf_538_27, rf_538_28, rf_538_30, rf_538_31, rf_538_32, rf_538_33, rf_538_34, rf_538_35, rf_538_36, ob_0, ob_1, ob_3, ob_9, ob_10, ob_17, ob_538, ar_2, ar_4, ar_5, ar_6, ar_7, ar_8, ar_11, ar_12, ar_13, ar_14, ar_15, ar_16, ar_116, ar_117, ar_539, ar_540, ar_541, ar_542, ar_543, ar_544, ar_545, ar_546, ar_547, ar_548, ar_549, ar_550, ar_551, ar_552, ar_553, ar_554, ar_555, ar_556, ar_557, ar_558, ex_eq, ex_ite, pm_bk_r, pm_bk_t, ol_nil, ol_one, true_and, and_true, false_and, and_false, reduceIte, Nat.reduceEqDiff, up_at, Nat.add_left_cancel_iff, s0, i1, h2, show (p = 1 - s) ↔ True from iff_true_intro h3]
        · simp (decide := true) only [q70_0, q70_1, q70_2, q70_5, q70_6, q70_7, q70_10, q70_11, q70_12, q70_15, q70_16, q70_17, q70_18, q70_19, q70_22, q70_23, q70_26, q70_27, q70_29, q70_30, q70_33, q70_34, q70_35, q70_38, q70_40, q70_43, q70_44, q70_47, q70_48, q70_49, q70_50, q70_53, W_1, W_I, W_mk, W_tk, pm_rv, rf_0_0, rf_0_1, rf_0_2, rf_0_3, rf_0_4, rf_0_7, rf_0_8, rf_1_0, rf_1_2, rf_3_0, rf_3_1, rf_3_6, rf_3_7, rf_3_8, rf_9_0, rf_9_1, rf_10_0, rf_10_1, rf_10_6, rf_10_7, rf_10_8, rf_17_0, rf_17_1, rf_538_2, rf_538_6, rf_538_7, rf_538_9, rf_538_11, rf_538_12, rf_538_18, rf_538_19, rf_538_22, rf_538_23, rf_538_25, rf_538_27, rf_538_28, rf_538_30, rf_538_31, rf_538_32, rf_538_33, rf_538_34, rf_538_35, rf_538_36, ob_0, ob_1, ob_3, ob_9, ob_10, ob_17, ob_538, ar_2, ar_4, ar_5, ar_6, ar_7, ar_8, ar_11, ar_12, ar_13, ar_14, ar_15, ar_16, ar_116, ar_117, ar_539, ar_540, ar_541, ar_542, ar_543, ar_544, ar_545, ar_546, ar_547, ar_548, ar_549, ar_550, ar_551, ar_552, ar_553, ar_554, ar_555, ar_556, ar_557, ar_558, ex_eq, ex_ite, pm_bk_r, pm_bk_t, ol_nil, ol_one, true_and, and_true, false_and, and_false, reduceIte, Nat.reduceEqDiff, up_at, Nat.add_left_cancel_iff, s0, i1, h2, h3]
  · by_cases s2 : s < 2
    · rw [if_neg (fun q => q.elim s0 (fun q => q s2))]
      by_cases i1 : i = -1
      · rw [if_neg (fun q => q.2 i1)]
        refine ⟨J, g1, fun x hx => by rw [g2 x hx, ht.2 x hx], g3, fun q => ?_⟩
        show pm_C (d + 3) 70 _ _ q ↔ _
        subst i1
        rw [n70]
        simp (decide := true) only [q70_0, q70_1, q70_2, q70_5, q70_6, q70_7, q70_10, q70_11, q70_12, q70_15, q70_16, q70_17, q70_18, q70_19, q70_22, q70_23, q70_26, q70_27, q70_29, q70_30, q70_33, q70_34, q70_35, q70_38, q70_40, q70_43, q70_44, q70_47, q70_48, q70_49, q70_50, q70_53, W_1, W_I, W_mk, W_tk, pm_rv, rf_0_0, rf_0_1, rf_0_2, rf_0_3, rf_0_4, rf_0_7, rf_0_8, rf_1_0, rf_1_2, rf_3_0, rf_3_1, rf_3_6, rf_3_7, rf_3_8, rf_9_0, rf_9_1, rf_10_0, rf_10_1, rf_10_6, rf_10_7, rf_10_8, rf_17_0, rf_17_1, rf_538_2, rf_538_6, rf_538_7, rf_538_9, rf_538_11, rf_538_12, rf_538_18, rf_538_19, rf_538_22, rf_538_23, rf_538_25, rf_538_27, rf_538_28, rf_538_30, rf_538_31, rf_538_32, rf_538_33, rf_538_34, rf_538_35, rf_538_36, ob_0, ob_1, ob_3, ob_9, ob_10, ob_17, ob_538, ar_2, ar_4, ar_5, ar_6, ar_7, ar_8, ar_11, ar_12, ar_13, ar_14, ar_15, ar_16, ar_116, ar_117, ar_539, ar_540, ar_541, ar_542, ar_543, ar_544, ar_545, ar_546, ar_547, ar_548, ar_549, ar_550, ar_551, ar_552, ar_553, ar_554, ar_555, ar_556, ar_557, ar_558, ex_eq, ex_ite, pm_bk_r, pm_bk_t, ol_nil, ol_one, true_and, and_true, false_and, and_false, reduceIte, Nat.reduceEqDiff, up_at, Nat.add_left_cancel_iff, s0, es, s2, g4', not_true_eq_false]
      · by_cases h2 : p = 2
        · rw [if_pos ⟨Or.inl h2, i1⟩]
          refine ⟨_, ht.1, ht.2, up_eq, fun q => ?_⟩
          show pm_C (d + 3) 70 _ _ q ↔ _
          rw [n70]
          simp (decide := true) only [q70_0, q70_1, q70_2, q70_5, q70_6, q70_7, q70_10, q70_11, q70_12, q70_15, q70_16, q70_17, q70_18, q70_19, q70_22, q70_23, q70_26, q70_27, q70_29, q70_30, q70_33, q70_34, q70_35, q70_38, q70_40, q70_43, q70_44, q70_47, q70_48, q70_49, q70_50, q70_53, W_1, W_I, W_mk, W_tk, pm_rv, rf_0_0, rf_0_1, rf_0_2, rf_0_3, rf_0_4, rf_0_7, rf_0_8, rf_1_0, rf_1_2, rf_3_0, rf_3_1, rf_3_6, rf_3_7, rf_3_8, rf_9_0, rf_9_1, rf_10_0, rf_10_1, rf_10_6, rf_10_7, rf_10_8, rf_17_0, rf_17_1, rf_538_2, rf_538_6, rf_538_7, rf_538_9, rf_538_11, rf_538_12, rf_538_18, rf_538_19, rf_538_22, rf_538_23, rf_538_25, rf_538_27, rf_538_28, rf_538_30, rf_538_31, rf_538_32, rf_538_33, rf_538_34, rf_538_35, rf_538_36, ob_0, ob_1, ob_3, ob_9, ob_10, ob_17, ob_538, ar_2, ar_4, ar_5, ar_6, ar_7, ar_8, ar_11, ar_12, ar_13, ar_14, ar_15, ar_16, ar_116, ar_117, ar_539, ar_540, ar_541, ar_542, ar_543, ar_544, ar_545, ar_546, ar_547, ar_548, ar_549, ar_550, ar_551, ar_552, ar_553, ar_554, ar_555, ar_556, ar_557, ar_558, ex_eq, ex_ite, pm_bk_r, pm_bk_t, ol_nil, ol_one, true_and, and_true, false_and, and_false, reduceIte, Nat.reduceEqDiff, up_at, Nat.add_left_cancel_iff, s0, es, s2, i1, h2, not_true_eq_false]
        · by_cases h3 : p = 1 - s
          · rw [if_pos ⟨Or.inr h3, i1⟩]
            refine ⟨_, ht.1, ht.2, up_eq, fun q => ?_⟩
            show pm_C (d + 3) 70 _ _ q ↔ _
            rw [n70]
            simp (decide := true) only [q70_0, q70_1, q70_2, q70_5, q70_6, q70_7, q70_10, q70_11, q70_12, q70_15, q70_16, q70_17, q70_18, q70_19, q70_22, q70_23, q70_26, q70_27, q70_29, q70_30, q70_33, q70_34, q70_35, q70_38, q70_40, q70_43, q70_44, q70_47, q70_48, q70_49, q70_50, q70_53, W_1, W_I, W_mk, W_tk, pm_rv, rf_0_0, rf_0_1, rf_0_2, rf_0_3, rf_0_4, rf_0_7, rf_0_8, rf_1_0, rf_1_2, rf_3_0, rf_3_1, rf_3_6, rf_3_7, rf_3_8, rf_9_0, rf_9_1, rf_10_0, rf_10_1, rf_10_6, rf_10_7, rf_10_8, rf_17_0, rf_17_1, rf_538_2, rf_538_6, rf_538_7, rf_538_9, rf_538_11, rf_538_12, rf_538_18, rf_538_19, rf_538_22, rf_538_23, rf_538_25, rf_538_27, rf_538_28, rf_538_30, rf_538_31, rf_538_32, rf_538_33, rf_538_34, rf_538_35, rf_538_36, ob_0, ob_1, ob_3, ob_9, ob_10, ob_17, ob_538, ar_2, ar_4, ar_5, ar_6, ar_7, ar_8, ar_11, ar_12, ar_13, ar_14, ar_15, ar_16, ar_116, ar_117, ar_539, ar_540, ar_541, ar_542, ar_543, ar_544, ar_545, ar_546, ar_547, ar_548, ar_549, ar_550, ar_551, ar_552, ar_553, ar_554, ar_555, ar_556, ar_557, ar_558, ex_eq, ex_ite, pm_bk_r, pm_bk_t, ol_nil, ol_one, true_and, and_true, false_and, and_false, reduceIte, Nat.reduceEqDiff, up_at, Nat.add_left_cancel_iff, s0, es, s2, i1, h2, show (p = 1 - s) ↔ True from iff_true_intro h3, not_true_eq_false]
          · rw [if_neg (fun q => q.1.elim h2 h3)]
            refine ⟨J, g1, fun x hx => by rw [g2 x hx, ht.2 x hx], g3, fun q => ?_⟩
            show pm_C (d + 3) 70 _ _ q ↔ _
            rw [n70]
            simp (decide := true) only [q70_0, q70_1, q70_2, q70_5, q70_6, q70_7, q70_10, q70_11, q70_12, q70_15, q70_16, q70_17, q70_18, q70_19, q70_22, q70_23, q70_26, q70_27, q70_29, q70_30, q70_33, q70_34, q70_35, q70_38, q70_40, q70_43, q70_44, q70_47, q70_48, q70_49, q70_50, q70_53, W_1, W_I, W_mk, W_tk, pm_rv, rf_0_0, rf_0_1, rf_0_2, rf_0_3, rf_0_4, rf_0_7, rf_0_8, rf_1_0, rf_1_2, rf_3_0, rf_3_1, rf_3_6, rf_3_7, rf_3_8, rf_9_0, rf_9_1, rf_10_0, rf_10_1, rf_10_6, rf_10_7, rf_10_8, rf_17_0, rf_17_1, rf_538_2, rf_538_6, rf_538_7, rf_538_9, rf_538_11, rf_538_12, rf_538_18, rf_538_19, rf_538_22, rf_538_23, rf_538_25, rf_538_27, rf_538_28, rf_538_30, rf_538_31, rf_538_32, rf_538_33, rf_538_34, rf_538_35, rf_538_36, ob_0, ob_1, ob_3, ob_9, ob_10, ob_17, ob_538, ar_2, ar_4, ar_5, ar_6, ar_7, ar_8, ar_11, ar_12, ar_13, ar_14, ar_15, ar_16, ar_116, ar_117, ar_539, ar_540, ar_541, ar_542, ar_543, ar_544, ar_545, ar_546, ar_547, ar_548, ar_549, ar_550, ar_551, ar_552, ar_553, ar_554, ar_555, ar_556, ar_557, ar_558, ex_eq, ex_ite, pm_bk_r, pm_bk_t, ol_nil, ol_one, true_and, and_true, false_and, and_false, reduceIte, Nat.reduceEqDiff, up_at, Nat.add_left_cancel_iff, s0, es, s2, i1, h2, h3, g4', not_true_eq_false]
    · rw [if_pos (Or.inr s2)]
      refine ⟨_, ht.1, ht.2, up_eq, fun q => ?_⟩
      show pm_C (d + 3) 70 _ _ q ↔ _
      rw [n70]
      by_cases i1 : i = -1
      · simp (decide := true) only [q70_0, q70_1, q70_2, q70_5, q70_6, q70_7, q70_10, q70_11, q70_12, q70_15, q70_16, q70_17, q70_18, q70_19, q70_22, q70_23, q70_26, q70_27, q70_29, q70_30, q70_33, q70_34, q70_35, q70_38, q70_40, q70_43, q70_44, q70_47, q70_48, q70_49, q70_50, q70_53, W_1, W_I, W_mk, W_tk, pm_rv, rf_0_0, rf_0_1, rf_0_2, rf_0_3, rf_0_4, rf_0_7, rf_0_8, rf_1_0, rf_1_2, rf_3_0, rf_3_1, rf_3_6, rf_3_7, rf_3_8, rf_9_0, rf_9_1, rf_10_0, rf_10_1, rf_10_6, rf_10_7, rf_10_8, rf_17_0, rf_17_1, rf_538_2, rf_538_6, rf_538_7, rf_538_9, rf_538_11, rf_538_12, rf_538_18, rf_538_19, rf_538_22, rf_538_23, rf_538_25, rf_538_27, rf_538_28, rf_538_30, rf_538_31, rf_538_32, rf_538_33, rf_538_34, rf_538_35, rf_538_36, ob_0, ob_1, ob_3, ob_9, ob_10, ob_17, ob_538, ar_2, ar_4, ar_5, ar_6, ar_7, ar_8, ar_11, ar_12, ar_13, ar_14, ar_15, ar_16, ar_116, ar_117, ar_539, ar_540, ar_541, ar_542, ar_543, ar_544, ar_545, ar_546, ar_547, ar_548, ar_549, ar_550, ar_551, ar_552, ar_553, ar_554, ar_555, ar_556, ar_557, ar_558, ex_eq, ex_ite, pm_bk_r, pm_bk_t, ol_nil, ol_one, true_and, and_true, false_and, and_false, reduceIte, Nat.reduceEqDiff, up_at, Nat.add_left_cancel_iff, s0, es, s2, i1, not_false_eq_true]
      · by_cases h2 : p = 2
        · simp (decide := true) only [q70_0, q70_1, q70_2, q70_5, q70_6, q70_7, q70_10, q70_11, q70_12, q70_15, q70_16, q70_17, q70_18, q70_19, q70_22, q70_23, q70_26, q70_27, q70_29, q70_30, q70_33, q70_34, q70_35, q70_38, q70_40, q70_43, q70_44, q70_47, q70_48, q70_49, q70_50, q70_53, W_1, W_I, W_mk, W_tk, pm_rv, rf_0_0, rf_0_1, rf_0_2, rf_0_3, rf_0_4, rf_0_7, rf_0_8, rf_1_0, rf_1_2, rf_3_0, rf_3_1, rf_3_6, rf_3_7, rf_3_8, rf_9_0, rf_9_1, rf_10_0, rf_10_1, rf_10_6, rf_10_7, rf_10_8, rf_17_0, rf_17_1, rf_538_2, rf_538_6, rf_538_7, rf_538_9, rf_538_11, rf_538_12, rf_538_18, rf_538_19, rf_538_22, rf_538_23, rf_538_25, rf_538_27, rf_538_28, rf_538_30, rf_538_31, rf_538_32, rf_538_33, rf_538_34, rf_538_35, rf_538_36, ob_0, ob_1, ob_3, ob_9, ob_10, ob_17, ob_538, ar_2, ar_4, ar_5, ar_6, ar_7, ar_8, ar_11, ar_12, ar_13, ar_14, ar_15, ar_16, ar_116, ar_117, ar_539, ar_540, ar_541, ar_542, ar_543, ar_544, ar_545, ar_546, ar_547, ar_548, ar_549, ar_550, ar_551, ar_552, ar_553, ar_554, ar_555, ar_556, ar_557, ar_558, ex_eq, ex_ite, pm_bk_r, pm_bk_t, ol_nil, ol_one, true_and, and_true, false_and, and_false, reduceIte, Nat.reduceEqDiff, up_at, Nat.add_left_cancel_iff, s0, es, s2, i1, h2, not_false_eq_true]
        · by_cases h3 : p = 1 - s
          · simp (decide := true) only [q70_0, q70_1, q70_2, q70_5, q70_6, q70_7, q70_10, q70_11, q70_12, q70_15, q70_16, q70_17, q70_18, q70_19, q70_22, q70_23, q70_26, q70_27, q70_29, q70_30, q70_33, q70_34, q70_35, q70_38, q70_40, q70_43, q70_44, q70_47, q70_48, q70_49, q70_50, q70_53, W_1, W_I, W_mk, W_tk, pm_rv, rf_0_0, rf_0_1, rf_0_2, rf_0_3, rf_0_4, rf_0_7, rf_0_8, rf_1_0, rf_1_2, rf_3_0, rf_3_1, rf_3_6, rf_3_7, rf_3_8, rf_9_0, rf_9_1, rf_10_0, rf_10_1, rf_10_6, rf_10_7, rf_10_8, rf_17_0, rf_17_1, rf_538_2, rf_538_6, rf_538_7, rf_538_9, rf_538_11, rf_538_12, rf_538_18, rf_538_19, rf_538_22, rf_538_23, rf_538_25, rf_538_27, rf_538_28, rf_538_30, rf_538_31, rf_538_32, rf_538_33, rf_538_34, rf_538_35, rf_538_36, ob_0, ob_1, ob_3, ob_9, ob_10, ob_17, ob_538, ar_2, ar_4, ar_5, ar_6, ar_7, ar_8, ar_11, ar_12, ar_13, ar_14, ar_15, ar_16, ar_116, ar_117, ar_539, ar_540, ar_541, ar_542, ar_543, ar_544, ar_545, ar_546, ar_547, ar_548, ar_549, ar_550, ar_551, ar_552, ar_553, ar_554, ar_555, ar_556, ar_557, ar_558, ex_eq, ex_ite, pm_bk_r, pm_bk_t, ol_nil, ol_one, true_and, and_true, false_and, and_false, reduceIte, Nat.reduceEqDiff, up_at, Nat.add_left_cancel_iff, s0, es, s2, i1, h2, show (p = 1 - s) ↔ True from iff_true_intro h3, not_false_eq_true]
          · simp (decide := true) only [q70_0, q70_1, q70_2, q70_5, q70_6, q70_7, q70_10, q70_11, q70_12, q70_15, q70_16, q70_17, q70_18, q70_19, q70_22, q70_23, q70_26, q70_27, q70_29, q70_30, q70_33, q70_34, q70_35, q70_38, q70_40, q70_43, q70_44, q70_47, q70_48, q70_49, q70_50, q70_53, W_1, W_I, W_mk, W_tk, pm_rv, rf_0_0, rf_0_1, rf_0_2, rf_0_3, rf_0_4, rf_0_7, rf_0_8, rf_1_0, rf_1_2, rf_3_0, rf_3_1, rf_3_6, rf_3_7, rf_3_8, rf_9_0, rf_9_1, rf_10_0, rf_10_1, rf_10_6, rf_10_7, rf_10_8, rf_17_0, rf_17_1, rf_538_2, rf_538_6, rf_538_7, rf_538_9, rf_538_11, rf_538_12, rf_538_18, rf_538_19, rf_538_22, rf_538_23, rf_538_25, rf_538_27, rf_538_28, rf_538_30, rf_538_31, rf_538_32, rf_538_33, rf_538_34, rf_538_35, rf_538_36, ob_0, ob_1, ob_3, ob_9, ob_10, ob_17, ob_538, ar_2, ar_4, ar_5, ar_6, ar_7, ar_8, ar_11, ar_12, ar_13, ar_14, ar_15, ar_16, ar_116, ar_117, ar_539, ar_540, ar_541, ar_542, ar_543, ar_544, ar_545, ar_546, ar_547, ar_548, ar_549, ar_550, ar_551, ar_552, ar_553, ar_554, ar_555, ar_556, ar_557, ar_558, ex_eq, ex_ite, pm_bk_r, pm_bk_t, ol_nil, ol_one, true_and, and_true, false_and, and_false, reduceIte, Nat.reduceEqDiff, up_at, Nat.add_left_cancel_iff, s0, es, s2, i1, h2, h3, not_false_eq_true]
theorem m71 (hA : AOK S) (h : MI S I) {x : Int32} : MOK S (m_thr (o_cnt S x)) (m_val (o_cnt S x)) I k o (fun M q => pm_C (d + 1) 71 [.ref 538, .int x] M q) := by
  have h24 := h.2.2.2.1
  have ht := h.th (m_thr (o_cnt S x))
  refine ⟨_, ht.1, ht.2, up_eq, fun q => ?_⟩
  show pm_C (d + 1) 71 _ _ q ↔ _
  unfold o_cnt
  rw [n71]
  by_cases x0 : x < 0
  · rw [if_neg (fun q => q.1 x0)]
    simp (decide := true) only [q71_0, q71_1, q71_2, q71_5, q71_6, q71_8, q71_11, q71_12, q71_15, q71_16, q71_19, q71_20, q71_23, q71_26, q71_27, q71_30, q71_33, q71_34, q71_37, q71_38, q71_41, q71_43, q71_44, q71_45, q71_46, W_1, W_I, W_mk, W_tk, pm_rv, rf_0_0, rf_0_1, rf_0_2, rf_0_3, rf_0_4, rf_0_7, rf_0_8, rf_1_0, rf_1_2, rf_3_0, rf_3_1, rf_3_6, rf_3_7, rf_3_8, rf_9_0, rf_9_1, rf_10_0, rf_10_1, rf_10_6, rf_10_7, rf_10_8, rf_17_0, rf_17_1, rf_538_2, rf_538_6, rf_538_7, rf_538_9, rf_538_11, rf_538_12, rf_538_18, rf_538_19, rf_538_22, rf_538_23, rf_538_25, rf_538_27, rf_538_28, rf_538_30, rf_538_31, rf_538_32, rf_538_33, rf_538_34, rf_538_35, rf_538_36, ob_0, ob_1, ob_3, ob_9, ob_10, ob_17, ob_538, ar_2, ar_4, ar_5, ar_6, ar_7, ar_8, ar_11, ar_12, ar_13, ar_14, ar_15, ar_16, ar_116, ar_117, ar_539, ar_540, ar_541, ar_542, ar_543, ar_544, ar_545, ar_546, ar_547, ar_548, ar_549, ar_550, ar_551, ar_552, ar_553, ar_554, ar_555, ar_556, ar_557, ar_558, ex_eq, ex_ite, pm_bk_r, pm_bk_t, ol_nil, ol_one, true_and, and_true, false_and, and_false, reduceIte, Nat.reduceEqDiff, up_at, Nat.add_left_cancel_iff, x0, m_thr, m_val]
  · by_cases x6 : x < 6
    · rw [if_pos ⟨x0, x6⟩]
      have hx := p6 x0 x6
      cases hD : S.2.2.1 with
      | none =>
        rw [hD] at h24
        have h24 : I 538 24 = 0 := h24
        simp (decide := true) only [q71_0, q71_1, q71_2, q71_5, q71_6, q71_8, q71_11, q71_12, q71_15, q71_16, q71_19, q71_20, q71_23, q71_26, q71_27, q71_30, q71_33, q71_34, q71_37, q71_38, q71_41, q71_43, q71_44, q71_45, q71_46, W_1, W_I, W_mk, W_tk, pm_rv, rf_0_0, rf_0_1, rf_0_2, rf_0_3, rf_0_4, rf_0_7, rf_0_8, rf_1_0, rf_1_2, rf_3_0, rf_3_1, rf_3_6, rf_3_7, rf_3_8, rf_9_0, rf_9_1, rf_10_0, rf_10_1, rf_10_6, rf_10_7, rf_10_8, rf_17_0, rf_17_1, rf_538_2, rf_538_6, rf_538_7, rf_538_9, rf_538_11, rf_538_12, rf_538_18, rf_538_19, rf_538_22, rf_538_23, rf_538_25, rf_538_27, rf_538_28, rf_538_30, rf_538_31, rf_538_32, rf_538_33, rf_538_34, rf_538_35, rf_538_36, ob_0, ob_1, ob_3, ob_9, ob_10, ob_17, ob_538, ar_2, ar_4, ar_5, ar_6, ar_7, ar_8, ar_11, ar_12, ar_13, ar_14, ar_15, ar_16, ar_116, ar_117, ar_539, ar_540, ar_541, ar_542, ar_543, ar_544, ar_545, ar_546, ar_547, ar_548, ar_549, ar_550, ar_551, ar_552, ar_553, ar_554, ar_555, ar_556, ar_557, ar_558, ex_eq, ex_ite, pm_bk_r, pm_bk_t, ol_nil, ol_one, true_and, and_true, false_and, and_false, reduceIte, Nat.reduceEqDiff, up_at, Nat.add_left_cancel_iff, x0, x6, h24, m_thr, m_val]
      | some P =>
        rw [hD] at h24
        have h24 : I 538 24 = 1 := h24
        have hMF := h.2.2.2.2.2.1 P hD
        have e6 : (6 : Int32) + x = nI (6 + x.toNatClampNeg) := by
          have := sm_add 6 x.toNatClampNeg
          rw [← hx.1] at this
          exact this
        have hv : I 549 (6 + x.toNatClampNeg) = if x < 4 then P.2.1 x.toNatClampNeg else P.2.2.1 (x.toNatClampNeg - 4) := by
          have hl : (x < 4) ↔ x.toNatClampNeg < 4 := by
            have : (nI x.toNatClampNeg < nI 4) ↔ x.toNatClampNeg < 4 := sm_lt (by omega) (by omega)
            rw [← hx.1] at this
            exact this
          by_cases x4 : x < 4
          · rw [if_pos x4]
            exact hMF.1.cnt (hl.mp x4)
          · rw [if_neg x4]
            have h4 : ¬ x.toNatClampNeg < 4 := fun q => x4 (hl.mpr q)
            have := hMF.1.sco (j := x.toNatClampNeg - 4) (by omega)
            rwa [show 10 + (x.toNatClampNeg - 4) = 6 + x.toNatClampNeg by omega] at this
        simp (decide := true) only [q71_0, q71_1, q71_2, q71_5, q71_6, q71_8, q71_11, q71_12, q71_15, q71_16, q71_19, q71_20, q71_23, q71_26, q71_27, q71_30, q71_33, q71_34, q71_37, q71_38, q71_41, q71_43, q71_44, q71_45, q71_46, W_1, W_I, W_mk, W_tk, pm_rv, rf_0_0, rf_0_1, rf_0_2, rf_0_3, rf_0_4, rf_0_7, rf_0_8, rf_1_0, rf_1_2, rf_3_0, rf_3_1, rf_3_6, rf_3_7, rf_3_8, rf_9_0, rf_9_1, rf_10_0, rf_10_1, rf_10_6, rf_10_7, rf_10_8, rf_17_0, rf_17_1, rf_538_2, rf_538_6, rf_538_7, rf_538_9, rf_538_11, rf_538_12, rf_538_18, rf_538_19, rf_538_22, rf_538_23, rf_538_25, rf_538_27, rf_538_28, rf_538_30, rf_538_31, rf_538_32, rf_538_33, rf_538_34, rf_538_35, rf_538_36, ob_0, ob_1, ob_3, ob_9, ob_10, ob_17, ob_538, ar_2, ar_4, ar_5, ar_6, ar_7, ar_8, ar_11, ar_12, ar_13, ar_14, ar_15, ar_16, ar_116, ar_117, ar_539, ar_540, ar_541, ar_542, ar_543, ar_544, ar_545, ar_546, ar_547, ar_548, ar_549, ar_550, ar_551, ar_552, ar_553, ar_554, ar_555, ar_556, ar_557, ar_558, ex_eq, ex_ite, pm_bk_r, pm_bk_t, ol_nil, ol_one, true_and, and_true, false_and, and_false, reduceIte, Nat.reduceEqDiff, up_at, Nat.add_left_cancel_iff, x0, x6, h24, e6, sm_in (show 6 + x.toNatClampNeg < 2147483648 by omega), show 6 + x.toNatClampNeg < 157 by omega, sm_cl (show 6 + x.toNatClampNeg < 2147483648 by omega), hv, m_thr, m_val]
    · rw [if_neg (fun q => x6 q.2)]
      simp (decide := true) only [q71_0, q71_1, q71_2, q71_5, q71_6, q71_8, q71_11, q71_12, q71_15, q71_16, q71_19, q71_20, q71_23, q71_26, q71_27, q71_30, q71_33, q71_34, q71_37, q71_38, q71_41, q71_43, q71_44, q71_45, q71_46, W_1, W_I, W_mk, W_tk, pm_rv, rf_0_0, rf_0_1, rf_0_2, rf_0_3, rf_0_4, rf_0_7, rf_0_8, rf_1_0, rf_1_2, rf_3_0, rf_3_1, rf_3_6, rf_3_7, rf_3_8, rf_9_0, rf_9_1, rf_10_0, rf_10_1, rf_10_6, rf_10_7, rf_10_8, rf_17_0, rf_17_1, rf_538_2, rf_538_6, rf_538_7, rf_538_9, rf_538_11, rf_538_12, rf_538_18, rf_538_19, rf_538_22, rf_538_23, rf_538_25, rf_538_27, rf_538_28, rf_538_30, rf_538_31, rf_538_32, rf_538_33, rf_538_34, rf_538_35, rf_538_36, ob_0, ob_1, ob_3, ob_9, ob_10, ob_17, ob_538, ar_2, ar_4, ar_5, ar_6, ar_7, ar_8, ar_11, ar_12, ar_13, ar_14, ar_15, ar_16, ar_116, ar_117, ar_539, ar_540, ar_541, ar_542, ar_543, ar_544, ar_545, ar_546, ar_547, ar_548, ar_549, ar_550, ar_551, ar_552, ar_553, ar_554, ar_555, ar_556, ar_557, ar_558, ex_eq, ex_ite, pm_bk_r, pm_bk_t, ol_nil, ol_one, true_and, and_true, false_and, and_false, reduceIte, Nat.reduceEqDiff, up_at, Nat.add_left_cancel_iff, x0, x6, m_thr, m_val]
theorem m72 (hA : AOK S) (h : MI S I) {w : Int32} : MOK S 0 (o_look S w) I k o (fun M q => pm_C (d + 9) 72 [.ref 538, .int w] M q) := by
  have ht := h.th 0
  have h24 := h.2.2.2.1
  have hgl : I 538 21 = o_gl S.2.1 ∧ I 538 15 * I 538 16 = o_gc S.2.1 ∧ I 538 17 = o_gr S.2.1 := by
    have := h.2.2.1
    cases e : S.2.1 with
    | none =>
      rw [e] at this
      have this : I 538 14 = 0 ∧ I 538 15 = 0 ∧ I 538 16 = 0 ∧ I 538 17 = 0 ∧ I 538 21 = 0 := this
      exact ⟨this.2.2.2.2, by rw [this.2.1, this.2.2.1]; rfl, this.2.2.2.1⟩
    | some G =>
      rw [e] at this
      have this : I 538 14 = 1 ∧ GM G I := this
      refine ⟨this.2.2.2.2.2.2.1, ?_, this.2.2.2.2.1⟩
      rw [this.2.2.1, this.2.2.2.1]
      exact sm_mul _ _
  obtain ⟨J, g1, g2, g3, g4, g5, g6⟩ := m64 (d := d) (k := k) (o := o) hA ht.1
  by_cases w6 : w = 6
  · subst w6
    cases hD : S.2.2.1 with
    | none =>
      rw [hD] at h24
      have h24 : I 538 24 = 0 := h24
      refine ⟨_, ht.1, ht.2, up_eq, fun q => ?_⟩
      show pm_C (d + 9) 72 _ _ q ↔ _
      unfold o_look
      rw [n72, hD]
      simp (decide := true) only [q72_0, q72_1, q72_2, q72_5, q72_6, q72_7, q72_10, q72_11, q72_14, q72_15, q72_18, q72_21, q72_22, q72_23, q72_26, q72_27, q72_30, q72_33, q72_34, q72_35, q72_38, q72_39, q72_42, q72_43, q72_46, q72_47, q72_50, q72_51, q72_52, q72_55, q72_56, q72_59, q72_62, q72_63, q72_64, q72_65, q72_66, q72_69, q72_70, q72_72, q72_75, q72_76, q72_78, q72_81, q72_82, q72_85, q72_88, q72_89, q72_92, q72_95, q72_96, q72_99, q72_100, q72_101, q72_102, q72_104, q72_107, q72_108, q72_111, q72_114, q72_115, q72_116, q72_117, q72_118, q72_121, q72_122, q72_125, q72_127, q72_128, q72_131, q72_132, q72_135, q72_138, q72_139, q72_142, q72_143, W_1, W_I, W_mk, W_tk, pm_rv, rf_0_0, rf_0_1, rf_0_2, rf_0_3, rf_0_4, rf_0_7, rf_0_8, rf_1_0, rf_1_2, rf_3_0, rf_3_1, rf_3_6, rf_3_7, rf_3_8, rf_9_0, rf_9_1, rf_10_0, rf_10_1, rf_10_6, rf_10_7, rf_10_8, rf_17_0, rf_17_1, rf_538_2, rf_538_6, rf_538_7, rf_538_9, rf_538_11, rf_538_12, rf_538_18, rf_538_19, rf_538_22, rf_538_23, rf_538_25, rf_538_27, rf_538_28, rf_538_30, rf_538_31, rf_538_32, rf_538_33, rf_538_34, rf_538_35, rf_538_36, ob_0, ob_1, ob_3, ob_9, ob_10, ob_17, ob_538, ar_2, ar_4, ar_5, ar_6, ar_7, ar_8, ar_11, ar_12, ar_13, ar_14, ar_15, ar_16, ar_116, ar_117, ar_539, ar_540, ar_541, ar_542, ar_543, ar_544, ar_545, ar_546, ar_547, ar_548, ar_549, ar_550, ar_551, ar_552, ar_553, ar_554, ar_555, ar_556, ar_557, ar_558, ex_eq, ex_ite, pm_bk_r, pm_bk_t, ol_nil, ol_one, true_and, and_true, false_and, and_false, reduceIte, Nat.reduceEqDiff, up_at, Nat.add_left_cancel_iff, h24]
    | some P =>
      rw [hD] at h24
      have h24 : I 538 24 = 1 := h24
      refine ⟨J, g1, fun x hx => by rw [g2.lo x hx, ht.2 x hx], by rw [g3, up_eq], fun q => ?_⟩
      show pm_C (d + 9) 72 _ _ q ↔ _
      have e0 : (nI (o_mv S).length = 0) ↔ (o_mv S).length = 0 := nI_eq0 (by omega)
      unfold o_look
      rw [n72, hD]
      by_cases hm : (o_mv S).length = 0
      · have e0' : (nI (o_mv S).length = 0) ↔ True := iff_true_intro (e0.mpr hm)
        simp (decide := true) only [q72_0, q72_1, q72_2, q72_5, q72_6, q72_7, q72_10, q72_11, q72_14, q72_15, q72_18, q72_21, q72_22, q72_23, q72_26, q72_27, q72_30, q72_33, q72_34, q72_35, q72_38, q72_39, q72_42, q72_43, q72_46, q72_47, q72_50, q72_51, q72_52, q72_55, q72_56, q72_59, q72_62, q72_63, q72_64, q72_65, q72_66, q72_69, q72_70, q72_72, q72_75, q72_76, q72_78, q72_81, q72_82, q72_85, q72_88, q72_89, q72_92, q72_95, q72_96, q72_99, q72_100, q72_101, q72_102, q72_104, q72_107, q72_108, q72_111, q72_114, q72_115, q72_116, q72_117, q72_118, q72_121, q72_122, q72_125, q72_127, q72_128, q72_131, q72_132, q72_135, q72_138, q72_139, q72_142, q72_143, W_1, W_I, W_mk, W_tk, pm_rv, rf_0_0, rf_0_1, rf_0_2, rf_0_3, rf_0_4, rf_0_7, rf_0_8, rf_1_0, rf_1_2, rf_3_0, rf_3_1, rf_3_6, rf_3_7, rf_3_8, rf_9_0, rf_9_1, rf_10_0, rf_10_1, rf_10_6, rf_10_7, rf_10_8, rf_17_0, rf_17_1, rf_538_2, rf_538_6, rf_538_7, rf_538_9, rf_538_11, rf_538_12, rf_538_18, rf_538_19, rf_538_22, rf_538_23, rf_538_25, rf_538_27, rf_538_28, rf_538_30, rf_538_31, rf_538_32, rf_538_33, rf_538_34, rf_538_35, rf_538_36, ob_0, ob_1, ob_3, ob_9, ob_10, ob_17, ob_538, ar_2, ar_4, ar_5, ar_6, ar_7, ar_8, ar_11, ar_12, ar_13, ar_14, ar_15, ar_16, ar_116, ar_117, ar_539, ar_540, ar_541, ar_542, ar_543, ar_544, ar_545, ar_546, ar_547, ar_548, ar_549, ar_550, ar_551, ar_552, ar_553, ar_554, ar_555, ar_556, ar_557, ar_558, ex_eq, ex_ite, pm_bk_r, pm_bk_t, ol_nil, ol_one, true_and, and_true, false_and, and_false, reduceIte, Nat.reduceEqDiff, up_at, Nat.add_left_cancel_iff, h24, g6, e0', hm]
      · simp (decide := true) only [q72_0, q72_1, q72_2, q72_5, q72_6, q72_7, q72_10, q72_11, q72_14, q72_15, q72_18, q72_21, q72_22, q72_23, q72_26, q72_27, q72_30, q72_33, q72_34, q72_35, q72_38, q72_39, q72_42, q72_43, q72_46, q72_47, q72_50, q72_51, q72_52, q72_55, q72_56, q72_59, q72_62, q72_63, q72_64, q72_65, q72_66, q72_69, q72_70, q72_72, q72_75, q72_76, q72_78, q72_81, q72_82, q72_85, q72_88, q72_89, q72_92, q72_95, q72_96, q72_99, q72_100, q72_101, q72_102, q72_104, q72_107, q72_108, q72_111, q72_114, q72_115, q72_116, q72_117, q72_118, q72_121, q72_122, q72_125, q72_127, q72_128, q72_131, q72_132, q72_135, q72_138, q72_139, q72_142, q72_143, W_1, W_I, W_mk, W_tk, pm_rv, rf_0_0, rf_0_1, rf_0_2, rf_0_3, rf_0_4, rf_0_7, rf_0_8, rf_1_0, rf_1_2, rf_3_0, rf_3_1, rf_3_6, rf_3_7, rf_3_8, rf_9_0, rf_9_1, rf_10_0, rf_10_1, rf_10_6, rf_10_7, rf_10_8, rf_17_0, rf_17_1, rf_538_2, rf_538_6, rf_538_7, rf_538_9, rf_538_11, rf_538_12, rf_538_18, rf_538_19, rf_538_22, rf_538_23, rf_538_25, rf_538_27, rf_538_28, rf_538_30, rf_538_31, rf_538_32, rf_538_33, rf_538_34, rf_538_35, rf_538_36, ob_0, ob_1, ob_3, ob_9, ob_10, ob_17, ob_538, ar_2, ar_4, ar_5, ar_6, ar_7, ar_8, ar_11, ar_12, ar_13, ar_14, ar_15, ar_16, ar_116, ar_117, ar_539, ar_540, ar_541, ar_542, ar_543, ar_544, ar_545, ar_546, ar_547, ar_548, ar_549, ar_550, ar_551, ar_552, ar_553, ar_554, ar_555, ar_556, ar_557, ar_558, ex_eq, ex_ite, pm_bk_r, pm_bk_t, ol_nil, ol_one, true_and, and_true, false_and, and_false, reduceIte, Nat.reduceEqDiff, up_at, Nat.add_left_cancel_iff, h24, g6, e0, hm]
  · refine ⟨_, ht.1, ht.2, up_eq, fun q => ?_⟩
    show pm_C (d + 9) 72 _ _ q ↔ _
    unfold o_look
    rw [n72]
    by_cases w0 : w = 0
    · subst w0; simp (decide := true) only [q72_0, q72_1, q72_2, q72_5, q72_6, q72_7, q72_10, q72_11, q72_14, q72_15, q72_18, q72_21, q72_22, q72_23, q72_26, q72_27, q72_30, q72_33, q72_34, q72_35, q72_38, q72_39, q72_42, q72_43, q72_46, q72_47, q72_50, q72_51, q72_52, q72_55, q72_56, q72_59, q72_62, q72_63, q72_64, q72_65, q72_66, q72_69, q72_70, q72_72, q72_75, q72_76, q72_78, q72_81, q72_82, q72_85, q72_88, q72_89, q72_92, q72_95, q72_96, q72_99, q72_100, q72_101, q72_102, q72_104, q72_107, q72_108, q72_111, q72_114, q72_115, q72_116, q72_117, q72_118, q72_121, q72_122, q72_125, q72_127, q72_128, q72_131, q72_132, q72_135, q72_138, q72_139, q72_142, q72_143, W_1, W_I, W_mk, W_tk, pm_rv, rf_0_0, rf_0_1, rf_0_2, rf_0_3, rf_0_4, rf_0_7, rf_0_8, rf_1_0, rf_1_2, rf_3_0, rf_3_1, rf_3_6, rf_3_7, rf_3_8, rf_9_0, rf_9_1, rf_10_0, rf_10_1, rf_10_6, rf_10_7, rf_10_8, rf_17_0, rf_17_1, rf_538_2, rf_538_6, rf_538_7, rf_538_9, rf_538_11, rf_538_12, rf_538_18, rf_538_19, rf_538_22, rf_538_23, rf_538_25, rf_538_27, rf_538_28, rf_538_30, rf_538_31, rf_538_32, rf_538_33, rf_538_34, rf_538_35, rf_538_36, ob_0, ob_1, ob_3, ob_9, ob_10, ob_17, ob_538, ar_2, ar_4, ar_5, ar_6, ar_7, ar_8, ar_11, ar_12, ar_13, ar_14, ar_15, ar_16, ar_116, ar_117, ar_539, ar_540, ar_541, ar_542, ar_543, ar_544, ar_545, ar_546, ar_547, ar_548, ar_549, ar_550, ar_551, ar_552, ar_553, ar_554, ar_555, ar_556, ar_557, ar_558, ex_eq, ex_ite, pm_bk_r, pm_bk_t, ol_nil, ol_one, true_and, and_true, false_and, and_false, reduceIte, Nat.reduceEqDiff, up_at, Nat.add_left_cancel_iff, h.1.1]
    · by_cases w1 : w = 1
      · subst w1; simp (decide := true) only [q72_0, q72_1, q72_2, q72_5, q72_6, q72_7, q72_10, q72_11, q72_14, q72_15, q72_18, q72_21, q72_22, q72_23, q72_26, q72_27, q72_30, q72_33, q72_34, q72_35, q72_38, q72_39, q72_42, q72_43, q72_46, q72_47, q72_50, q72_51, q72_52, q72_55, q72_56, q72_59, q72_62, q72_63, q72_64, q72_65, q72_66, q72_69, q72_70, q72_72, q72_75, q72_76, q72_78, q72_81, q72_82, q72_85, q72_88, q72_89, q72_92, q72_95, q72_96, q72_99, q72_100, q72_101, q72_102, q72_104, q72_107, q72_108, q72_111, q72_114, q72_115, q72_116, q72_117, q72_118, q72_121, q72_122, q72_125, q72_127, q72_128, q72_131, q72_132, q72_135, q72_138, q72_139, q72_142, q72_143, W_1, W_I, W_mk, W_tk, pm_rv, rf_0_0, rf_0_1, rf_0_2, rf_0_3, rf_0_4, rf_0_7, rf_0_8, rf_1_0, rf_1_2, rf_3_0, rf_3_1, rf_3_6, rf_3_7, rf_3_8, rf_9_0, rf_9_1, rf_10_0, rf_10_1, rf_10_6, rf_10_7, rf_10_8, rf_17_0, rf_17_1, rf_538_2, rf_538_6, rf_538_7, rf_538_9, rf_538_11, rf_538_12, rf_538_18, rf_538_19, rf_538_22, rf_538_23, rf_538_25, rf_538_27, rf_538_28, rf_538_30, rf_538_31, rf_538_32, rf_538_33, rf_538_34, rf_538_35, rf_538_36, ob_0, ob_1, ob_3, ob_9, ob_10, ob_17, ob_538, ar_2, ar_4, ar_5, ar_6, ar_7, ar_8, ar_11, ar_12, ar_13, ar_14, ar_15, ar_16, ar_116, ar_117, ar_539, ar_540, ar_541, ar_542, ar_543, ar_544, ar_545, ar_546, ar_547, ar_548, ar_549, ar_550, ar_551, ar_552, ar_553, ar_554, ar_555, ar_556, ar_557, ar_558, ex_eq, ex_ite, pm_bk_r, pm_bk_t, ol_nil, ol_one, true_and, and_true, false_and, and_false, reduceIte, Nat.reduceEqDiff, up_at, Nat.add_left_cancel_iff, hgl.1]
      · by_cases w2 : w = 2
        · subst w2; simp (decide := true) only [q72_0, q72_1, q72_2, q72_5, q72_6, q72_7, q72_10, q72_11, q72_14, q72_15, q72_18, q72_21, q72_22, q72_23, q72_26, q72_27, q72_30, q72_33, q72_34, q72_35, q72_38, q72_39, q72_42, q72_43, q72_46, q72_47, q72_50, q72_51, q72_52, q72_55, q72_56, q72_59, q72_62, q72_63, q72_64, q72_65, q72_66, q72_69, q72_70, q72_72, q72_75, q72_76, q72_78, q72_81, q72_82, q72_85, q72_88, q72_89, q72_92, q72_95, q72_96, q72_99, q72_100, q72_101, q72_102, q72_104, q72_107, q72_108, q72_111, q72_114, q72_115, q72_116, q72_117, q72_118, q72_121, q72_122, q72_125, q72_127, q72_128, q72_131, q72_132, q72_135, q72_138, q72_139, q72_142, q72_143, W_1, W_I, W_mk, W_tk, pm_rv, rf_0_0, rf_0_1, rf_0_2, rf_0_3, rf_0_4, rf_0_7, rf_0_8, rf_1_0, rf_1_2, rf_3_0, rf_3_1, rf_3_6, rf_3_7, rf_3_8, rf_9_0, rf_9_1, rf_10_0, rf_10_1, rf_10_6, rf_10_7, rf_10_8, rf_17_0, rf_17_1, rf_538_2, rf_538_6, rf_538_7, rf_538_9, rf_538_11, rf_538_12, rf_538_18, rf_538_19, rf_538_22, rf_538_23, rf_538_25, rf_538_27, rf_538_28, rf_538_30, rf_538_31, rf_538_32, rf_538_33, rf_538_34, rf_538_35, rf_538_36, ob_0, ob_1, ob_3, ob_9, ob_10, ob_17, ob_538, ar_2, ar_4, ar_5, ar_6, ar_7, ar_8, ar_11, ar_12, ar_13, ar_14, ar_15, ar_16, ar_116, ar_117, ar_539, ar_540, ar_541, ar_542, ar_543, ar_544, ar_545, ar_546, ar_547, ar_548, ar_549, ar_550, ar_551, ar_552, ar_553, ar_554, ar_555, ar_556, ar_557, ar_558, ex_eq, ex_ite, pm_bk_r, pm_bk_t, ol_nil, ol_one, true_and, and_true, false_and, and_false, reduceIte, Nat.reduceEqDiff, up_at, Nat.add_left_cancel_iff, hgl.2.1]
        · by_cases w3 : w = 3
          · subst w3; simp (decide := true) only [q72_0, q72_1, q72_2, q72_5, q72_6, q72_7, q72_10, q72_11, q72_14, q72_15, q72_18, q72_21, q72_22, q72_23, q72_26, q72_27, q72_30, q72_33, q72_34, q72_35, q72_38, q72_39, q72_42, q72_43, q72_46, q72_47, q72_50, q72_51, q72_52, q72_55, q72_56, q72_59, q72_62, q72_63, q72_64, q72_65, q72_66, q72_69, q72_70, q72_72, q72_75, q72_76, q72_78, q72_81, q72_82, q72_85, q72_88, q72_89, q72_92, q72_95, q72_96, q72_99, q72_100, q72_101, q72_102, q72_104, q72_107, q72_108, q72_111, q72_114, q72_115, q72_116, q72_117, q72_118, q72_121, q72_122, q72_125, q72_127, q72_128, q72_131, q72_132, q72_135, q72_138, q72_139, q72_142, q72_143, W_1, W_I, W_mk, W_tk, pm_rv, rf_0_0, rf_0_1, rf_0_2, rf_0_3, rf_0_4, rf_0_7, rf_0_8, rf_1_0, rf_1_2, rf_3_0, rf_3_1, rf_3_6, rf_3_7, rf_3_8, rf_9_0, rf_9_1, rf_10_0, rf_10_1, rf_10_6, rf_10_7, rf_10_8, rf_17_0, rf_17_1, rf_538_2, rf_538_6, rf_538_7, rf_538_9, rf_538_11, rf_538_12, rf_538_18, rf_538_19, rf_538_22, rf_538_23, rf_538_25, rf_538_27, rf_538_28, rf_538_30, rf_538_31, rf_538_32, rf_538_33, rf_538_34, rf_538_35, rf_538_36, ob_0, ob_1, ob_3, ob_9, ob_10, ob_17, ob_538, ar_2, ar_4, ar_5, ar_6, ar_7, ar_8, ar_11, ar_12, ar_13, ar_14, ar_15, ar_16, ar_116, ar_117, ar_539, ar_540, ar_541, ar_542, ar_543, ar_544, ar_545, ar_546, ar_547, ar_548, ar_549, ar_550, ar_551, ar_552, ar_553, ar_554, ar_555, ar_556, ar_557, ar_558, ex_eq, ex_ite, pm_bk_r, pm_bk_t, ol_nil, ol_one, true_and, and_true, false_and, and_false, reduceIte, Nat.reduceEqDiff, up_at, Nat.add_left_cancel_iff, hgl.2.2]
          · by_cases w4 : w = 4
            · subst w4
              cases hD : S.2.2.1 with
              | none =>
                rw [hD] at h24
                have h24 : I 538 24 = 0 := h24
                simp (decide := true) only [q72_0, q72_1, q72_2, q72_5, q72_6, q72_7, q72_10, q72_11, q72_14, q72_15, q72_18, q72_21, q72_22, q72_23, q72_26, q72_27, q72_30, q72_33, q72_34, q72_35, q72_38, q72_39, q72_42, q72_43, q72_46, q72_47, q72_50, q72_51, q72_52, q72_55, q72_56, q72_59, q72_62, q72_63, q72_64, q72_65, q72_66, q72_69, q72_70, q72_72, q72_75, q72_76, q72_78, q72_81, q72_82, q72_85, q72_88, q72_89, q72_92, q72_95, q72_96, q72_99, q72_100, q72_101, q72_102, q72_104, q72_107, q72_108, q72_111, q72_114, q72_115, q72_116, q72_117, q72_118, q72_121, q72_122, q72_125, q72_127, q72_128, q72_131, q72_132, q72_135, q72_138, q72_139, q72_142, q72_143, W_1, W_I, W_mk, W_tk, pm_rv, rf_0_0, rf_0_1, rf_0_2, rf_0_3, rf_0_4, rf_0_7, rf_0_8, rf_1_0, rf_1_2, rf_3_0, rf_3_1, rf_3_6, rf_3_7, rf_3_8, rf_9_0, rf_9_1, rf_10_0, rf_10_1, rf_10_6, rf_10_7, rf_10_8, rf_17_0, rf_17_1, rf_538_2, rf_538_6, rf_538_7, rf_538_9, rf_538_11, rf_538_12, rf_538_18, rf_538_19, rf_538_22, rf_538_23, rf_538_25, rf_538_27, rf_538_28, rf_538_30, rf_538_31, rf_538_32, rf_538_33, rf_538_34, rf_538_35, rf_538_36, ob_0, ob_1, ob_3, ob_9, ob_10, ob_17, ob_538, ar_2, ar_4, ar_5, ar_6, ar_7, ar_8, ar_11, ar_12, ar_13, ar_14, ar_15, ar_16, ar_116, ar_117, ar_539, ar_540, ar_541, ar_542, ar_543, ar_544, ar_545, ar_546, ar_547, ar_548, ar_549, ar_550, ar_551, ar_552, ar_553, ar_554, ar_555, ar_556, ar_557, ar_558, ex_eq, ex_ite, pm_bk_r, pm_bk_t, ol_nil, ol_one, true_and, and_true, false_and, and_false, reduceIte, Nat.reduceEqDiff, up_at, Nat.add_left_cancel_iff, h24, bI, Option.isSome]
              | some P =>
                rw [hD] at h24
                have h24 : I 538 24 = 1 := h24
                simp (decide := true) only [q72_0, q72_1, q72_2, q72_5, q72_6, q72_7, q72_10, q72_11, q72_14, q72_15, q72_18, q72_21, q72_22, q72_23, q72_26, q72_27, q72_30, q72_33, q72_34, q72_35, q72_38, q72_39, q72_42, q72_43, q72_46, q72_47, q72_50, q72_51, q72_52, q72_55, q72_56, q72_59, q72_62, q72_63, q72_64, q72_65, q72_66, q72_69, q72_70, q72_72, q72_75, q72_76, q72_78, q72_81, q72_82, q72_85, q72_88, q72_89, q72_92, q72_95, q72_96, q72_99, q72_100, q72_101, q72_102, q72_104, q72_107, q72_108, q72_111, q72_114, q72_115, q72_116, q72_117, q72_118, q72_121, q72_122, q72_125, q72_127, q72_128, q72_131, q72_132, q72_135, q72_138, q72_139, q72_142, q72_143, W_1, W_I, W_mk, W_tk, pm_rv, rf_0_0, rf_0_1, rf_0_2, rf_0_3, rf_0_4, rf_0_7, rf_0_8, rf_1_0, rf_1_2, rf_3_0, rf_3_1, rf_3_6, rf_3_7, rf_3_8, rf_9_0, rf_9_1, rf_10_0, rf_10_1, rf_10_6, rf_10_7, rf_10_8, rf_17_0, rf_17_1, rf_538_2, rf_538_6, rf_538_7, rf_538_9, rf_538_11, rf_538_12, rf_538_18, rf_538_19, rf_538_22, rf_538_23, rf_538_25, rf_538_27, rf_538_28, rf_538_30, rf_538_31, rf_538_32, rf_538_33, rf_538_34, rf_538_35, rf_538_36, ob_0, ob_1, ob_3, ob_9, ob_10, ob_17, ob_538, ar_2, ar_4, ar_5, ar_6, ar_7, ar_8, ar_11, ar_12, ar_13, ar_14, ar_15, ar_16, ar_116, ar_117, ar_539, ar_540, ar_541, ar_542, ar_543, ar_544, ar_545, ar_546, ar_547, ar_548, ar_549, ar_550, ar_551, ar_552, ar_553, ar_554, ar_555, ar_556, ar_557, ar_558, ex_eq, ex_ite, pm_bk_r, pm_bk_t, ol_nil, ol_one, true_and, and_true, false_and, and_false, reduceIte, Nat.reduceEqDiff, up_at, Nat.add_left_cancel_iff, h24, bI, Option.isSome]
            · by_cases w7 : w = 7
              · subst w7; simp (decide := true) only [q72_0, q72_1, q72_2, q72_5, q72_6, q72_7, q72_10, q72_11, q72_14, q72_15, q72_18, q72_21, q72_22, q72_23, q72_26, q72_27, q72_30, q72_33, q72_34, q72_35, q72_38, q72_39, q72_42, q72_43, q72_46, q72_47, q72_50, q72_51, q72_52, q72_55, q72_56, q72_59, q72_62, q72_63, q72_64, q72_65, q72_66, q72_69, q72_70, q72_72, q72_75, q72_76, q72_78, q72_81, q72_82, q72_85, q72_88, q72_89, q72_92, q72_95, q72_96, q72_99, q72_100, q72_101, q72_102, q72_104, q72_107, q72_108, q72_111, q72_114, q72_115, q72_116, q72_117, q72_118, q72_121, q72_122, q72_125, q72_127, q72_128, q72_131, q72_132, q72_135, q72_138, q72_139, q72_142, q72_143, W_1, W_I, W_mk, W_tk, pm_rv, rf_0_0, rf_0_1, rf_0_2, rf_0_3, rf_0_4, rf_0_7, rf_0_8, rf_1_0, rf_1_2, rf_3_0, rf_3_1, rf_3_6, rf_3_7, rf_3_8, rf_9_0, rf_9_1, rf_10_0, rf_10_1, rf_10_6, rf_10_7, rf_10_8, rf_17_0, rf_17_1, rf_538_2, rf_538_6, rf_538_7, rf_538_9, rf_538_11, rf_538_12, rf_538_18, rf_538_19, rf_538_22, rf_538_23, rf_538_25, rf_538_27, rf_538_28, rf_538_30, rf_538_31, rf_538_32, rf_538_33, rf_538_34, rf_538_35, rf_538_36, ob_0, ob_1, ob_3, ob_9, ob_10, ob_17, ob_538, ar_2, ar_4, ar_5, ar_6, ar_7, ar_8, ar_11, ar_12, ar_13, ar_14, ar_15, ar_16, ar_116, ar_117, ar_539, ar_540, ar_541, ar_542, ar_543, ar_544, ar_545, ar_546, ar_547, ar_548, ar_549, ar_550, ar_551, ar_552, ar_553, ar_554, ar_555, ar_556, ar_557, ar_558, ex_eq, ex_ite, pm_bk_r, pm_bk_t, ol_nil, ol_one, true_and, and_true, false_and, and_false, reduceIte, Nat.reduceEqDiff, up_at, Nat.add_left_cancel_iff, h.2.2.2.2.1]
              · by_cases w5 : w = 5
                · subst w5
                  cases hD : S.2.2.1 with
                  | none =>
                    rw [hD] at h24
                    have h24 : I 538 24 = 0 := h24
                    simp (decide := true) only [q72_0, q72_1, q72_2, q72_5, q72_6, q72_7, q72_10, q72_11, q72_14, q72_15, q72_18, q72_21, q72_22, q72_23, q72_26, q72_27, q72_30, q72_33, q72_34, q72_35, q72_38, q72_39, q72_42, q72_43, q72_46, q72_47, q72_50, q72_51, q72_52, q72_55, q72_56, q72_59, q72_62, q72_63, q72_64, q72_65, q72_66, q72_69, q72_70, q72_72, q72_75, q72_76, q72_78, q72_81, q72_82, q72_85, q72_88, q72_89, q72_92, q72_95, q72_96, q72_99, q72_100, q72_101, q72_102, q72_104, q72_107, q72_108, q72_111, q72_114, q72_115, q72_116, q72_117, q72_118, q72_121, q72_122, q72_125, q72_127, q72_128, q72_131, q72_132, q72_135, q72_138, q72_139, q72_142, q72_143, W_1, W_I, W_mk, W_tk, pm_rv, rf_0_0, rf_0_1, rf_0_2, rf_0_3, rf_0_4, rf_0_7, rf_0_8, rf_1_0, rf_1_2, rf_3_0, rf_3_1, rf_3_6, rf_3_7, rf_3_8, rf_9_0, rf_9_1, rf_10_0, rf_10_1, rf_10_6, rf_10_7, rf_10_8, rf_17_0, rf_17_1, rf_538_2, rf_538_6, rf_538_7, rf_538_9, rf_538_11, rf_538_12, rf_538_18, rf_538_19, rf_538_22, rf_538_23, rf_538_25, rf_538_27, rf_538_28, rf_538_30, rf_538_31, rf_538_32, rf_538_33, rf_538_34, rf_538_35, rf_538_36, ob_0, ob_1, ob_3, ob_9, ob_10, ob_17, ob_538, ar_2, ar_4, ar_5, ar_6, ar_7, ar_8, ar_11, ar_12, ar_13, ar_14, ar_15, ar_16, ar_116, ar_117, ar_539, ar_540, ar_541, ar_542, ar_543, ar_544, ar_545, ar_546, ar_547, ar_548, ar_549, ar_550, ar_551, ar_552, ar_553, ar_554, ar_555, ar_556, ar_557, ar_558, ex_eq, ex_ite, pm_bk_r, pm_bk_t, ol_nil, ol_one, true_and, and_true, false_and, and_false, reduceIte, Nat.reduceEqDiff, up_at, Nat.add_left_cancel_iff, h24]
                  | some P =>
                    rw [hD] at h24
                    have h24 : I 538 24 = 1 := h24
                    have htt : I 549 12 = nI P.2.2.2 := by
                      have := (h.2.2.2.2.2.1 P hD).2
                      rwa [Nat.zero_add] at this
                    simp (decide := true) only [q72_0, q72_1, q72_2, q72_5, q72_6, q72_7, q72_10, q72_11, q72_14, q72_15, q72_18, q72_21, q72_22, q72_23, q72_26, q72_27, q72_30, q72_33, q72_34, q72_35, q72_38, q72_39, q72_42, q72_43, q72_46, q72_47, q72_50, q72_51, q72_52, q72_55, q72_56, q72_59, q72_62, q72_63, q72_64, q72_65, q72_66, q72_69, q72_70, q72_72, q72_75, q72_76, q72_78, q72_81, q72_82, q72_85, q72_88, q72_89, q72_92, q72_95, q72_96, q72_99, q72_100, q72_101, q72_102, q72_104, q72_107, q72_108, q72_111, q72_114, q72_115, q72_116, q72_117, q72_118, q72_121, q72_122, q72_125, q72_127, q72_128, q72_131, q72_132, q72_135, q72_138, q72_139, q72_142, q72_143, W_1, W_I, W_mk, W_tk, pm_rv, rf_0_0, rf_0_1, rf_0_2, rf_0_3, rf_0_4, rf_0_7, rf_0_8, rf_1_0, rf_1_2, rf_3_0, rf_3_1, rf_3_6, rf_3_7, rf_3_8, rf_9_0, rf_9_1, rf_10_0, rf_10_1, rf_10_6, rf_10_7, rf_10_8, rf_17_0, rf_17_1, rf_538_2, rf_538_6, rf_538_7, rf_538_9, rf_538_11, rf_538_12, rf_538_18, rf_538_19, rf_538_22, rf_538_23, rf_538_25, rf_538_27, rf_538_28, rf_538_30, rf_538_31, rf_538_32, rf_538_33, rf_538_34, rf_538_35, rf_538_36, ob_0, ob_1, ob_3, ob_9, ob_10, ob_17, ob_538, ar_2, ar_4, ar_5, ar_6, ar_7, ar_8, ar_11, ar_12, ar_13, ar_14, ar_15, ar_16, ar_116, ar_117, ar_539, ar_540, ar_541, ar_542, ar_543, ar_544, ar_545, ar_546, ar_547, ar_548, ar_549, ar_550, ar_551, ar_552, ar_553, ar_554, ar_555, ar_556, ar_557, ar_558, ex_eq, ex_ite, pm_bk_r, pm_bk_t, ol_nil, ol_one, true_and, and_true, false_and, and_false, reduceIte, Nat.reduceEqDiff, up_at, Nat.add_left_cancel_iff, h24, show vp_in (12 : Int32) 157 ↔ True from vp_x (a := 12) (by omega) (by omega), show (12 : Int32).toNatClampNeg = 12 from by decide, htt]
                · have w1' := w1
                  by_cases wl : w < 4
                  · simp (decide := true) only [q72_0, q72_1, q72_2, q72_5, q72_6, q72_7, q72_10, q72_11, q72_14, q72_15, q72_18, q72_21, q72_22, q72_23, q72_26, q72_27, q72_30, q72_33, q72_34, q72_35, q72_38, q72_39, q72_42, q72_43, q72_46, q72_47, q72_50, q72_51, q72_52, q72_55, q72_56, q72_59, q72_62, q72_63, q72_64, q72_65, q72_66, q72_69, q72_70, q72_72, q72_75, q72_76, q72_78, q72_81, q72_82, q72_85, q72_88, q72_89, q72_92, q72_95, q72_96, q72_99, q72_100, q72_101, q72_102, q72_104, q72_107, q72_108, q72_111, q72_114, q72_115, q72_116, q72_117, q72_118, q72_121, q72_122, q72_125, q72_127, q72_128, q72_131, q72_132, q72_135, q72_138, q72_139, q72_142, q72_143, W_1, W_I, W_mk, W_tk, pm_rv, rf_0_0, rf_0_1, rf_0_2, rf_0_3, rf_0_4, rf_0_7, rf_0_8, rf_1_0, rf_1_2, rf_3_0, rf_3_1, rf_3_6, rf_3_7, rf_3_8, rf_9_0, rf_9_1, rf_10_0, rf_10_1, rf_10_6, rf_10_7, rf_10_8, rf_17_0, rf_17_1, rf_538_2, rf_538_6, rf_538_7, rf_538_9, rf_538_11, rf_538_12, rf_538_18, rf_538_19, rf_538_22, rf_538_23, rf_538_25, rf_538_27, rf_538_28, rf_538_30, rf_538_31, rf_538_32, rf_538_33, rf_538_34, rf_538_35, rf_538_36, ob_0, ob_1, ob_3, ob_9, ob_10, ob_17, ob_538, ar_2, ar_4, ar_5, ar_6, ar_7, ar_8, ar_11, ar_12, ar_13, ar_14, ar_15, ar_16, ar_116, ar_117, ar_539, ar_540, ar_541, ar_542, ar_543, ar_544, ar_545, ar_546, ar_547, ar_548, ar_549, ar_550, ar_551, ar_552, ar_553, ar_554, ar_555, ar_556, ar_557, ar_558, ex_eq, ex_ite, pm_bk_r, pm_bk_t, ol_nil, ol_one, true_and, and_true, false_and, and_false, reduceIte, Nat.reduceEqDiff, up_at, Nat.add_left_cancel_iff, wl, w0, w1, w2, w3, w4, w5, w6, w7]
                  · by_cases wg : 7 < w
                    · simp (decide := true) only [q72_0, q72_1, q72_2, q72_5, q72_6, q72_7, q72_10, q72_11, q72_14, q72_15, q72_18, q72_21, q72_22, q72_23, q72_26, q72_27, q72_30, q72_33, q72_34, q72_35, q72_38, q72_39, q72_42, q72_43, q72_46, q72_47, q72_50, q72_51, q72_52, q72_55, q72_56, q72_59, q72_62, q72_63, q72_64, q72_65, q72_66, q72_69, q72_70, q72_72, q72_75, q72_76, q72_78, q72_81, q72_82, q72_85, q72_88, q72_89, q72_92, q72_95, q72_96, q72_99, q72_100, q72_101, q72_102, q72_104, q72_107, q72_108, q72_111, q72_114, q72_115, q72_116, q72_117, q72_118, q72_121, q72_122, q72_125, q72_127, q72_128, q72_131, q72_132, q72_135, q72_138, q72_139, q72_142, q72_143, W_1, W_I, W_mk, W_tk, pm_rv, rf_0_0, rf_0_1, rf_0_2, rf_0_3, rf_0_4, rf_0_7, rf_0_8, rf_1_0, rf_1_2, rf_3_0, rf_3_1, rf_3_6, rf_3_7, rf_3_8, rf_9_0, rf_9_1, rf_10_0, rf_10_1, rf_10_6, rf_10_7, rf_10_8, rf_17_0, rf_17_1, rf_538_2, rf_538_6, rf_538_7, rf_538_9, rf_538_11, rf_538_12, rf_538_18, rf_538_19, rf_538_22, rf_538_23, rf_538_25, rf_538_27, rf_538_28, rf_538_30, rf_538_31, rf_538_32, rf_538_33, rf_538_34, rf_538_35, rf_538_36, ob_0, ob_1, ob_3, ob_9, ob_10, ob_17, ob_538, ar_2, ar_4, ar_5, ar_6, ar_7, ar_8, ar_11, ar_12, ar_13, ar_14, ar_15, ar_16, ar_116, ar_117, ar_539, ar_540, ar_541, ar_542, ar_543, ar_544, ar_545, ar_546, ar_547, ar_548, ar_549, ar_550, ar_551, ar_552, ar_553, ar_554, ar_555, ar_556, ar_557, ar_558, ex_eq, ex_ite, pm_bk_r, pm_bk_t, ol_nil, ol_one, true_and, and_true, false_and, and_false, reduceIte, Nat.reduceEqDiff, up_at, Nat.add_left_cancel_iff, wl, wg, w0, w1, w2, w3, w4, w5, w6, w7]
                    · exfalso
                      have hw0 : ¬ w < 0 := by
                        intro q
                        apply wl
                        rw [Int32.lt_iff_toInt_lt] at q ⊢
                        have e1 : (4 : Int32).toInt = 4 := by decide
                        have e0 : (0 : Int32).toInt = 0 := by decide
                        omega
                      have hn := nn_nI hw0
                      have k1 : ¬ w.toNatClampNeg < 4 := fun q => wl (by rw [hn.1]; exact (sm_lt (b := 4) hn.2 (by omega)).mpr q)
                      have k2 : ¬ 7 < w.toNatClampNeg := fun q => wg (by rw [hn.1]; exact (sm_lt (a := 7) (by omega) hn.2).mpr q)
                      have : w.toNatClampNeg = 4 ∨ w.toNatClampNeg = 5 ∨ w.toNatClampNeg = 6 ∨ w.toNatClampNeg = 7 := by omega
                      rcases this with e | e | e | e <;> rw [e] at hn
                      · exact w4 hn.1
                      · exact w5 hn.1
                      · exact w6 hn.1
                      · exact w7 hn.1
def t_solve (r : Int32 ⊕ Nat) : Int32 := match r with
  | .inl _ => 0
  | .inr 1 => 1
  | .inr 0 => 2
  | .inr _ => 3
theorem m77 (hA : AOK S) (h : MI S I) {b : Int32} : MOK (o_solve S b).1 (t_solve (o_solve S b).2) (m_val (o_solve S b).2) I k o (fun M q => pm_C (d + 9) 77 [.ref 538, .int b] M q) := by
  have h24 := h.2.2.2.1
  cases hD : S.2.2.1 with
  | none =>
    rw [hD] at h24
    have h24 : I 538 24 = 0 := h24
    have ho : o_solve S b = (S, .inr 1) := by unfold o_solve; rw [hD]; cases S.2.1 <;> rfl
    rw [ho]
    have ht := h.th 1
    refine ⟨_, ht.1, ht.2, up_eq, fun q => ?_⟩
    show pm_C (d + 9) 77 _ _ q ↔ _
    rw [n77]
    simp (decide := true) only [q77_0, q77_1, q77_2, q77_5, q77_8, q77_9, q77_12, q77_13, q77_14, q77_17, q77_18, q77_21, q77_24, q77_25, q77_28, q77_29, q77_32, q77_33, q77_36, q77_39, q77_40, q77_41, q77_42, q77_43, q77_46, q77_47, q77_48, q77_49, q77_52, q77_53, q77_54, q77_57, q77_58, q77_61, q77_62, q77_65, q77_66, q77_69, q77_72, q77_73, q77_74, q77_75, q77_76, q77_79, q77_80, q77_81, q77_84, q77_85, q77_88, q77_89, q77_90, W_1, W_I, W_mk, W_tk, pm_rv, rf_0_0, rf_0_1, rf_0_2, rf_0_3, rf_0_4, rf_0_7, rf_0_8, rf_1_0, rf_1_2, rf_3_0, rf_3_1, rf_3_6, rf_3_7, rf_3_8, rf_9_0, rf_9_1, rf_10_0, rf_10_1, rf_10_6, rf_10_7, rf_10_8, rf_17_0, rf_17_1, rf_538_2, rf_538_6, rf_538_7, rf_538_9, rf_538_11, rf_538_12, rf_538_18, rf_538_19, rf_538_22, rf_538_23, rf_538_25, rf_538_27, rf_538_28, rf_538_30, rf_538_31, rf_538_32, rf_538_33, rf_538_34, rf_538_35, rf_538_36, ob_0, ob_1, ob_3, ob_9, ob_10, ob_17, ob_538, ar_2, ar_4, ar_5, ar_6, ar_7, ar_8, ar_11, ar_12, ar_13, ar_14, ar_15, ar_16, ar_116, ar_117, ar_539, ar_540, ar_541, ar_542, ar_543, ar_544, ar_545, ar_546, ar_547, ar_548, ar_549, ar_550, ar_551, ar_552, ar_553, ar_554, ar_555, ar_556, ar_557, ar_558, ex_eq, ex_ite, pm_bk_r, pm_bk_t, ol_nil, ol_one, true_and, and_true, false_and, and_false, reduceIte, Nat.reduceEqDiff, up_at, Nat.add_left_cancel_iff, h24, m_val]
  | some P =>
    rw [hD] at h24
    have h24 : I 538 24 = 1 := h24
    obtain ⟨G, hG, hok, hPA⟩ := hA.g hD
    have ho : o_solve S b = if b < 1 ∨ 2000 < b then (S, .inr 0) else if t_ok G 10 P = true ∧ t_n G 10 P < b.toNatClampNeg then ((S.1, some G, some P, S.2.2.2.1, (t_v G 10 P).2), .inl (t_v G 10 P).1) else (S, .inr 3) := by unfold o_solve; rw [hG, hD]
    rw [ho]
    by_cases b1 : b < 1
    · rw [if_pos (Or.inl b1)]
      have ht := h.th 2
      refine ⟨_, ht.1, ht.2, up_eq, fun q => ?_⟩
      show pm_C (d + 9) 77 _ _ q ↔ _
      rw [n77]
      simp (decide := true) only [q77_0, q77_1, q77_2, q77_5, q77_8, q77_9, q77_12, q77_13, q77_14, q77_17, q77_18, q77_21, q77_24, q77_25, q77_28, q77_29, q77_32, q77_33, q77_36, q77_39, q77_40, q77_41, q77_42, q77_43, q77_46, q77_47, q77_48, q77_49, q77_52, q77_53, q77_54, q77_57, q77_58, q77_61, q77_62, q77_65, q77_66, q77_69, q77_72, q77_73, q77_74, q77_75, q77_76, q77_79, q77_80, q77_81, q77_84, q77_85, q77_88, q77_89, q77_90, W_1, W_I, W_mk, W_tk, pm_rv, rf_0_0, rf_0_1, rf_0_2, rf_0_3, rf_0_4, rf_0_7, rf_0_8, rf_1_0, rf_1_2, rf_3_0, rf_3_1, rf_3_6, rf_3_7, rf_3_8, rf_9_0, rf_9_1, rf_10_0, rf_10_1, rf_10_6, rf_10_7, rf_10_8, rf_17_0, rf_17_1, rf_538_2, rf_538_6, rf_538_7, rf_538_9, rf_538_11, rf_538_12, rf_538_18, rf_538_19, rf_538_22, rf_538_23, rf_538_25, rf_538_27, rf_538_28, rf_538_30, rf_538_31, rf_538_32, rf_538_33, rf_538_34, rf_538_35, rf_538_36, ob_0, ob_1, ob_3, ob_9, ob_10, ob_17, ob_538, ar_2, ar_4, ar_5, ar_6, ar_7, ar_8, ar_11, ar_12, ar_13, ar_14, ar_15, ar_16, ar_116, ar_117, ar_539, ar_540, ar_541, ar_542, ar_543, ar_544, ar_545, ar_546, ar_547, ar_548, ar_549, ar_550, ar_551, ar_552, ar_553, ar_554, ar_555, ar_556, ar_557, ar_558, ex_eq, ex_ite, pm_bk_r, pm_bk_t, ol_nil, ol_one, true_and, and_true, false_and, and_false, reduceIte, Nat.reduceEqDiff, up_at, Nat.add_left_cancel_iff, h24, b1, m_val]
    · by_cases b2 : 2000 < b
      · rw [if_pos (Or.inr b2)]
        have ht := h.th 2
        refine ⟨_, ht.1, ht.2, up_eq, fun q => ?_⟩
        show pm_C (d + 9) 77 _ _ q ↔ _
        rw [n77]
        simp (decide := true) only [q77_0, q77_1, q77_2, q77_5, q77_8, q77_9, q77_12, q77_13, q77_14, q77_17, q77_18, q77_21, q77_24, q77_25, q77_28, q77_29, q77_32, q77_33, q77_36, q77_39, q77_40, q77_41, q77_42, q77_43, q77_46, q77_47, q77_48, q77_49, q77_52, q77_53, q77_54, q77_57, q77_58, q77_61, q77_62, q77_65, q77_66, q77_69, q77_72, q77_73, q77_74, q77_75, q77_76, q77_79, q77_80, q77_81, q77_84, q77_85, q77_88, q77_89, q77_90, W_1, W_I, W_mk, W_tk, pm_rv, rf_0_0, rf_0_1, rf_0_2, rf_0_3, rf_0_4, rf_0_7, rf_0_8, rf_1_0, rf_1_2, rf_3_0, rf_3_1, rf_3_6, rf_3_7, rf_3_8, rf_9_0, rf_9_1, rf_10_0, rf_10_1, rf_10_6, rf_10_7, rf_10_8, rf_17_0, rf_17_1, rf_538_2, rf_538_6, rf_538_7, rf_538_9, rf_538_11, rf_538_12, rf_538_18, rf_538_19, rf_538_22, rf_538_23, rf_538_25, rf_538_27, rf_538_28, rf_538_30, rf_538_31, rf_538_32, rf_538_33, rf_538_34, rf_538_35, rf_538_36, ob_0, ob_1, ob_3, ob_9, ob_10, ob_17, ob_538, ar_2, ar_4, ar_5, ar_6, ar_7, ar_8, ar_11, ar_12, ar_13, ar_14, ar_15, ar_16, ar_116, ar_117, ar_539, ar_540, ar_541, ar_542, ar_543, ar_544, ar_545, ar_546, ar_547, ar_548, ar_549, ar_550, ar_551, ar_552, ar_553, ar_554, ar_555, ar_556, ar_557, ar_558, ex_eq, ex_ite, pm_bk_r, pm_bk_t, ol_nil, ol_one, true_and, and_true, false_and, and_false, reduceIte, Nat.reduceEqDiff, up_at, Nat.add_left_cancel_iff, h24, b1, b2, m_val]
      · rw [if_neg (fun q => q.elim b1 b2)]
        have b0 : ¬ b < 0 := by
          intro q
          apply b1
          rw [Int32.lt_iff_toInt_lt] at q ⊢
          have e1 : (1 : Int32).toInt = 1 := by decide
          have e0 : (0 : Int32).toInt = 0 := by decide
          omega
        have hn := nn_nI b0
        have hb1 : 1 ≤ b.toNatClampNeg := by
          have b1 : ¬ b < nI 1 := b1
          rw [hn.1, sm_lt hn.2 (by omega)] at b1
          omega
        have hb2 : b.toNatClampNeg ≤ 2000 := by
          have b2 : ¬ nI 2000 < b := b2
          rw [hn.1, sm_lt (by omega) hn.2] at b2
          omega
        have ht := h.th 0
        have hgm : GM G (pm_up I 538 0 0) := by have := ht.1.2.2.1; rw [hG] at this; exact this.2
        have hc := c76 (d := d) (k := k) (o := o) hok hPA hb1 hb2 hgm (ht.1.2.2.2.2.2.1 P hD)
        rw [← hn.1] at hc
        have h74 : ∀ {J : Nat → Nat → Int32} q, (pm_C (d + 8) 74 [.ref 538, .int 0] (Wm J k o) q ↔ q = (.inl none, Wm (pm_cpy J 558 0 549 0 157) k o)) := fun q => c74 (d := d + 7) (e := 0) (by omega)
        have hPL := hPA.1.pl
        by_cases hs : t_ok G 10 P = true ∧ t_n G 10 P < b.toNatClampNeg
        · rw [if_pos hs]
          obtain ⟨J, g1, g2, g3, g4, g5⟩ := hc.1 hs
          obtain ⟨J2, hJ2⟩ : ∃ J2, J2 = pm_cpy J 558 0 549 0 157 := ⟨_, rfl⟩
          have m2 : MF 549 0 P J2 := by rw [hJ2]; exact g2.cp hPL
          have s2 : ∀ x j, x ≠ 549 → J2 x j = J x j := fun x j a => by rw [hJ2, cp_ne a]
          have kp : MKp I J2 := (kp_th.trans g1.kp).trans ⟨fun j a => s2 _ _ (by omega), fun x j a => s2 _ _ (by omega)⟩
          have hJ := h.kp kp (fun P' hP' => by rw [hD] at hP'; injection hP' with hP'; rw [← hP']; exact m2)
          obtain ⟨J3, hJ3⟩ : ∃ J3, J3 = pm_up (pm_up J2 538 0 0) 538 37 (t_v G 10 P).2 := ⟨_, rfl⟩
          have s3 : ∀ x j, ¬ (x = 538 ∧ (j = 0 ∨ j = 37)) → J3 x j = J2 x j := fun x j a => by rw [hJ3, up_ne (by omega), up_ne (by omega)]
          obtain ⟨x1, ⟨W, x2⟩, x3, x4, x5, x6, x7, x8⟩ := hJ
          refine ⟨J3, ⟨⟨by rw [s3 _ _ (by omega)]; exact x1.1, fun i hi => by rw [s3 _ _ (by omega)]; exact x1.2 i hi⟩, ⟨W, x2.cg (s3 _ _ (by omega)) (by funext j; exact s3 _ _ (by omega))⟩, ?_, ?_, ?_, fun P' hP' => ?_, fun h' hh' => (x7 h' hh').row (by funext j; exact s3 _ _ (by omega)), ?_⟩, fun x hx => ?_, ?_, fun q => ?_⟩
          · rw [hG] at x3
            exact ⟨by rw [s3 _ _ (by omega)]; exact x3.1, x3.2.congr (fun j _ _ => s3 _ _ (by omega)) (fun x a b => by funext j; exact s3 _ _ (by omega))⟩
          · rw [s3 _ _ (by omega), x4, hD]
          · rw [s3 _ _ (by omega)]; exact x5
          · injection hP' with hP'
            rw [← hP']
            exact m2.row (by funext j; exact s3 _ _ (by omega))
          · rw [hJ3, up_eq]
          · funext j
            rw [s3 _ _ (by omega), kp.lo x hx]
          · show J3 538 0 = 0
            rw [hJ3, up_ne (by omega), up_eq]
          · show pm_C (d + 9) 77 _ _ q ↔ _
            have e1 : J2 557 0 = (t_v G 10 P).2 := by rw [s2 _ _ (by omega)]; exact g4
            have e2 : J2 556 0 = (t_v G 10 P).1 := by rw [s2 _ _ (by omega)]; exact g3
            rw [n77]
            simp (decide := true) only [q77_0, q77_1, q77_2, q77_5, q77_8, q77_9, q77_12, q77_13, q77_14, q77_17, q77_18, q77_21, q77_24, q77_25, q77_28, q77_29, q77_32, q77_33, q77_36, q77_39, q77_40, q77_41, q77_42, q77_43, q77_46, q77_47, q77_48, q77_49, q77_52, q77_53, q77_54, q77_57, q77_58, q77_61, q77_62, q77_65, q77_66, q77_69, q77_72, q77_73, q77_74, q77_75, q77_76, q77_79, q77_80, q77_81, q77_84, q77_85, q77_88, q77_89, q77_90, W_1, W_I, W_mk, W_tk, pm_rv, rf_0_0, rf_0_1, rf_0_2, rf_0_3, rf_0_4, rf_0_7, rf_0_8, rf_1_0, rf_1_2, rf_3_0, rf_3_1, rf_3_6, rf_3_7, rf_3_8, rf_9_0, rf_9_1, rf_10_0, rf_10_1, rf_10_6, rf_10_7, rf_10_8, rf_17_0, rf_17_1, rf_538_2, rf_538_6, rf_538_7, rf_538_9, rf_538_11, rf_538_12, rf_538_18, rf_538_19, rf_538_22, rf_538_23, rf_538_25, rf_538_27, rf_538_28, rf_538_30, rf_538_31, rf_538_32, rf_538_33, rf_538_34, rf_538_35, rf_538_36, ob_0, ob_1, ob_3, ob_9, ob_10, ob_17, ob_538, ar_2, ar_4, ar_5, ar_6, ar_7, ar_8, ar_11, ar_12, ar_13, ar_14, ar_15, ar_16, ar_116, ar_117, ar_539, ar_540, ar_541, ar_542, ar_543, ar_544, ar_545, ar_546, ar_547, ar_548, ar_549, ar_550, ar_551, ar_552, ar_553, ar_554, ar_555, ar_556, ar_557, ar_558, ex_eq, ex_ite, pm_bk_r, pm_bk_t, ol_nil, ol_one, true_and, and_true, false_and, and_false, reduceIte, Nat.reduceEqDiff, up_at, Nat.add_left_cancel_iff, h24, b1, b2, g5, h74, hJ2.symm, vp_0, kc0, e1, e2, m_val]
            rw [hJ3]
        · rw [if_neg hs]
          obtain ⟨J, g1, g2, g3⟩ := hc.2 hs
          obtain ⟨J2, hJ2⟩ : ∃ J2, J2 = pm_cpy J 558 0 549 0 157 := ⟨_, rfl⟩
          have m2 : MF 549 0 P J2 := by rw [hJ2]; exact g2.cp hPL
          have s2 : ∀ x j, x ≠ 549 → J2 x j = J x j := fun x j a => by rw [hJ2, cp_ne a]
          have kp : MKp I J2 := (kp_th.trans g1.kp).trans ⟨fun j a => s2 _ _ (by omega), fun x j a => s2 _ _ (by omega)⟩
          have hJ := h.kp kp (fun P' hP' => by rw [hD] at hP'; injection hP' with hP'; rw [← hP']; exact m2)
          have ht2 := hJ.th 3
          refine ⟨_, ht2.1, fun x hx => by rw [ht2.2 x hx, kp.lo x hx], up_eq, fun q => ?_⟩
          show pm_C (d + 9) 77 _ _ q ↔ _
          rw [n77]
          simp (decide := true) only [q77_0, q77_1, q77_2, q77_5, q77_8, q77_9, q77_12, q77_13, q77_14, q77_17, q77_18, q77_21, q77_24, q77_25, q77_28, q77_29, q77_32, q77_33, q77_36, q77_39, q77_40, q77_41, q77_42, q77_43, q77_46, q77_47, q77_48, q77_49, q77_52, q77_53, q77_54, q77_57, q77_58, q77_61, q77_62, q77_65, q77_66, q77_69, q77_72, q77_73, q77_74, q77_75, q77_76, q77_79, q77_80, q77_81, q77_84, q77_85, q77_88, q77_89, q77_90, W_1, W_I, W_mk, W_tk, pm_rv, rf_0_0, rf_0_1, rf_0_2, rf_0_3, rf_0_4, rf_0_7, rf_0_8, rf_1_0, rf_1_2, rf_3_0, rf_3_1, rf_3_6, rf_3_7, rf_3_8, rf_9_0, rf_9_1, rf_10_0, rf_10_1, rf_10_6, rf_10_7, rf_10_8, rf_17_0, rf_17_1, rf_538_2, rf_538_6, rf_538_7, rf_538_9, rf_538_11, rf_538_12, rf_538_18, rf_538_19, rf_538_22, rf_538_23, rf_538_25, rf_538_27, rf_538_28, rf_538_30, rf_538_31, rf_538_32, rf_538_33, rf_538_34, rf_538_35, rf_538_36, ob_0, ob_1, ob_3, ob_9, ob_10, ob_17, ob_538, ar_2, ar_4, ar_5, ar_6, ar_7, ar_8, ar_11, ar_12, ar_13, ar_14, ar_15, ar_16, ar_116, ar_117, ar_539, ar_540, ar_541, ar_542, ar_543, ar_544, ar_545, ar_546, ar_547, ar_548, ar_549, ar_550, ar_551, ar_552, ar_553, ar_554, ar_555, ar_556, ar_557, ar_558, ex_eq, ex_ite, pm_bk_r, pm_bk_t, ol_nil, ol_one, true_and, and_true, false_and, and_false, reduceIte, Nat.reduceEqDiff, up_at, Nat.add_left_cancel_iff, h24, b1, b2, g3, h74, hJ2.symm, m_val]
end MOT
