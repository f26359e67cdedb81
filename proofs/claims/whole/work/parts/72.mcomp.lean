/-! THE REFERENCE: take, compile -/
section MCM
variable {d k : Nat} {o : Int64} {T : List Nat}
theorem c46_r {m : Nat} (hm : m ≤ 8) {y1 y2 : Option Value} : ∀ n i (I : Nat → Nat → Int32), i + n = m → I 538 17 = nI m → (∀ j, j < m → ∃ b, I 543 j = bI b) → ∃ J, (∀ j, i ≤ j → j < m → J 545 j = I 543 j ∧ J 546 j = I 544 j) ∧ (∀ x j, ¬ ((x = 545 ∨ x = 546) ∧ i ≤ j ∧ j < m) → J x j = I x j) ∧ ∀ q, (pm_R d 46 41 [some (.ref 538), y1, y2, some (.int (nI i))] [] (Wm I k o) q ↔ pm_R d 46 79 [some (.ref 538), y1, y2, some (.int (nI m))] [] (Wm J k o) q) := by
  intro n
  induction n with
  | zero =>
    intro i I hi h17 hb
    obtain rfl : i = m := by omega
    refine ⟨I, fun j h1 h2 => by omega, fun _ _ _ => rfl, fun q => ?_⟩
    rw [q46_41]
    simp only [q46_42, q46_43, q46_46, W_1, W_I, W_mk, W_tk, pm_rv, rf_0_0, rf_0_1, rf_0_2, rf_0_3, rf_0_4, rf_0_7, rf_0_8, rf_1_0, rf_1_2, rf_3_0, rf_3_1, rf_3_6, rf_3_7, rf_3_8, rf_9_0, rf_9_1, rf_10_0, rf_10_1, rf_10_6, rf_10_7, rf_10_8, rf_17_0, rf_17_1, rf_538_2, rf_538_6, rf_538_7, rf_538_9, rf_538_11, rf_538_12, rf_538_18, rf_538_19, rf_538_22, rf_538_23, rf_538_25, rf_538_27, rf_538_28, rf_538_30, rf_538_31, rf_538_32, rf_538_33, rf_538_34, rf_538_35, rf_538_36, ob_0, ob_1, ob_3, ob_9, ob_10, ob_17, ob_538, ar_2, ar_4, ar_5, ar_6, ar_7, ar_8, ar_11, ar_12, ar_13, ar_14, ar_15, ar_16, ar_116, ar_117, ar_539, ar_540, ar_541, ar_542, ar_543, ar_544, ar_545, ar_546, ar_547, ar_548, ar_549, ar_550, ar_551, ar_552, ar_553, ar_554, ar_555, ar_556, ar_557, ar_558, ex_eq, ex_ite, pm_bk_r, pm_bk_t, ol_nil, ol_one, true_and, and_true, false_and, and_false, reduceIte, Nat.reduceEqDiff, up_at, Nat.add_left_cancel_iff, h17, show (nI i < nI i) ↔ False from iff_false_intro (by rw [sm_lt (by omega) (by omega)]; omega)]
  | succ n ih =>
    intro i I hi h17 hb
    obtain ⟨b, hbi⟩ := hb i (by omega)
    have hnar : vp_nar (pm_ty 2) (bI b) = bI b := by cases b <;> decide
    obtain ⟨J, g1, g2, g3⟩ := ih (i + 1) (pm_up (pm_up I 545 i (bI b)) 546 i (I 544 i)) (by omega) (by rw [up_ne (by omega), up_ne (by omega)]; exact h17) (fun j hj => by rw [up_ne (by omega), up_ne (by omega)]; exact hb j hj)
    refine ⟨J, fun j h1 h2 => ?_, fun x j hx => ?_, fun q => ?_⟩
    · by_cases e : j = i
      · subst e
        rw [g2 _ _ (by omega), g2 _ _ (by omega), up_ne (by omega), up_eq, up_eq, hbi]
        exact ⟨rfl, rfl⟩
      · have := g1 j (by omega) h2
        rw [this.1, this.2, up_ne (by omega), up_ne (by omega), up_ne (by omega), up_ne (by omega)]
        exact ⟨rfl, rfl⟩
    · rw [g2 x j (by omega), up_ne (by omega), up_ne (by omega)]
    · rw [q46_41]
      simp only [q46_42, q46_43, q46_46, q46_49, q46_50, q46_53, q46_54, q46_55, q46_58, q46_59, q46_60, q46_61, q46_62, q46_65, q46_66, q46_67, q46_70, q46_71, q46_72, q46_73, q46_76, W_1, W_I, W_mk, W_tk, pm_rv, rf_0_0, rf_0_1, rf_0_2, rf_0_3, rf_0_4, rf_0_7, rf_0_8, rf_1_0, rf_1_2, rf_3_0, rf_3_1, rf_3_6, rf_3_7, rf_3_8, rf_9_0, rf_9_1, rf_10_0, rf_10_1, rf_10_6, rf_10_7, rf_10_8, rf_17_0, rf_17_1, rf_538_2, rf_538_6, rf_538_7, rf_538_9, rf_538_11, rf_538_12, rf_538_18, rf_538_19, rf_538_22, rf_538_23, rf_538_25, rf_538_27, rf_538_28, rf_538_30, rf_538_31, rf_538_32, rf_538_33, rf_538_34, rf_538_35, rf_538_36, ob_0, ob_1, ob_3, ob_9, ob_10, ob_17, ob_538, ar_2, ar_4, ar_5, ar_6, ar_7, ar_8, ar_11, ar_12, ar_13, ar_14, ar_15, ar_16, ar_116, ar_117, ar_539, ar_540, ar_541, ar_542, ar_543, ar_544, ar_545, ar_546, ar_547, ar_548, ar_549, ar_550, ar_551, ar_552, ar_553, ar_554, ar_555, ar_556, ar_557, ar_558, ex_eq, ex_ite, pm_bk_r, pm_bk_t, ol_nil, ol_one, true_and, and_true, false_and, and_false, reduceIte, Nat.reduceEqDiff, up_at, Nat.add_left_cancel_iff, h17, show (nI i < nI m) ↔ True from iff_true_intro (by rw [sm_lt (by omega) (by omega)]; omega), sm_in (show i < 2147483648 by omega), show i < 8 by omega, sm_cl (show i < 2147483648 by omega), hbi, hnar, sm_s, show ¬ (544 = 545) by decide, g3]
theorem c46_c {m : Nat} (hm : m ≤ 160) {y1 y2 : Option Value} : ∀ n i (I : Nat → Nat → Int32), i + n = m → I 538 21 = nI m → ∃ J, (∀ j, i ≤ j → j < m → J 547 j = I 540 j ∧ J 548 j = I 541 j) ∧ (∀ x j, ¬ ((x = 547 ∨ x = 548) ∧ i ≤ j ∧ j < m) → J x j = I x j) ∧ ∀ q, (pm_R d 46 81 [some (.ref 538), y1, y2, some (.int (nI i))] [] (Wm I k o) q ↔ pm_R d 46 119 [some (.ref 538), y1, y2, some (.int (nI m))] [] (Wm J k o) q) := by
  intro n
  induction n with
  | zero =>
    intro i I hi h17
    obtain rfl : i = m := by omega
    refine ⟨I, fun j h1 h2 => by omega, fun _ _ _ => rfl, fun q => ?_⟩
    rw [q46_81]
    simp only [q46_82, q46_83, q46_86, W_1, W_I, W_mk, W_tk, pm_rv, rf_0_0, rf_0_1, rf_0_2, rf_0_3, rf_0_4, rf_0_7, rf_0_8, rf_1_0, rf_1_2, rf_3_0, rf_3_1, rf_3_6, rf_3_7, rf_3_8, rf_9_0, rf_9_1, rf_10_0, rf_10_1, rf_10_6, rf_10_7, rf_10_8, rf_17_0, rf_17_1, rf_538_2, rf_538_6, rf_538_7, rf_538_9, rf_538_11, rf_538_12, rf_538_18, rf_538_19, rf_538_22, rf_538_23, rf_538_25, rf_538_27, rf_538_28, rf_538_30, rf_538_31, rf_538_32, rf_538_33, rf_538_34, rf_538_35, rf_538_36, ob_0, ob_1, ob_3, ob_9, ob_10, ob_17, ob_538, ar_2, ar_4, ar_5, ar_6, ar_7, ar_8, ar_11, ar_12, ar_13, ar_14, ar_15, ar_16, ar_116, ar_117, ar_539, ar_540, ar_541, ar_542, ar_543, ar_544, ar_545, ar_546, ar_547, ar_548, ar_549, ar_550, ar_551, ar_552, ar_553, ar_554, ar_555, ar_556, ar_557, ar_558, ex_eq, ex_ite, pm_bk_r, pm_bk_t, ol_nil, ol_one, true_and, and_true, false_and, and_false, reduceIte, Nat.reduceEqDiff, up_at, Nat.add_left_cancel_iff, h17, show (nI i < nI i) ↔ False from iff_false_intro (by rw [sm_lt (by omega) (by omega)]; omega)]
  | succ n ih =>
    intro i I hi h17
    obtain ⟨J, g1, g2, g3⟩ := ih (i + 1) (pm_up (pm_up I 547 i (I 540 i)) 548 i (I 541 i)) (by omega) (by rw [up_ne (by omega), up_ne (by omega)]; exact h17)
    refine ⟨J, fun j h1 h2 => ?_, fun x j hx => ?_, fun q => ?_⟩
    · by_cases e : j = i
      · subst e
        rw [g2 _ _ (by omega), g2 _ _ (by omega), up_ne (by omega), up_eq, up_eq]
        exact ⟨rfl, rfl⟩
      · have := g1 j (by omega) h2
        rw [this.1, this.2, up_ne (by omega), up_ne (by omega), up_ne (by omega), up_ne (by omega)]
        exact ⟨rfl, rfl⟩
    · rw [g2 x j (by omega), up_ne (by omega), up_ne (by omega)]
    · rw [q46_81]
      simp only [q46_82, q46_83, q46_86, q46_89, q46_90, q46_93, q46_94, q46_95, q46_98, q46_99, q46_100, q46_101, q46_102, q46_105, q46_106, q46_107, q46_110, q46_111, q46_112, q46_113, q46_116, W_1, W_I, W_mk, W_tk, pm_rv, rf_0_0, rf_0_1, rf_0_2, rf_0_3, rf_0_4, rf_0_7, rf_0_8, rf_1_0, rf_1_2, rf_3_0, rf_3_1, rf_3_6, rf_3_7, rf_3_8, rf_9_0, rf_9_1, rf_10_0, rf_10_1, rf_10_6, rf_10_7, rf_10_8, rf_17_0, rf_17_1, rf_538_2, rf_538_6, rf_538_7, rf_538_9, rf_538_11, rf_538_12, rf_538_18, rf_538_19, rf_538_22, rf_538_23, rf_538_25, rf_538_27, rf_538_28, rf_538_30, rf_538_31, rf_538_32, rf_538_33, rf_538_34, rf_538_35, rf_538_36, ob_0, ob_1, ob_3, ob_9, ob_10, ob_17, ob_538, ar_2, ar_4, ar_5, ar_6, ar_7, ar_8, ar_11, ar_12, ar_13, ar_14, ar_15, ar_16, ar_116, ar_117, ar_539, ar_540, ar_541, ar_542, ar_543, ar_544, ar_545, ar_546, ar_547, ar_548, ar_549, ar_550, ar_551, ar_552, ar_553, ar_554, ar_555, ar_556, ar_557, ar_558, ex_eq, ex_ite, pm_bk_r, pm_bk_t, ol_nil, ol_one, true_and, and_true, false_and, and_false, reduceIte, Nat.reduceEqDiff, up_at, Nat.add_left_cancel_iff, h17, show (nI i < nI m) ↔ True from iff_true_intro (by rw [sm_lt (by omega) (by omega)]; omega), sm_in (show i < 2147483648 by omega), show i < 500 by omega, show i < 160 by omega, sm_cl (show i < 2147483648 by omega), sm_s, show ¬ (541 = 547) by decide, g3]
def FY (I J : Nat → Nat → Int32) : Prop := ∀ x j, ¬ (x = 538 ∧ j ≠ 29) → ¬ (540 ≤ x ∧ x ≤ 548) → J x j = I x j
/-- a game taken over -/
theorem c46 {G : Gm} {I : Nat → Nat → Int32} (hc : G.1.length ≤ 160) (hr : G.2.2.2.1.length ≤ 8) (hK : KM (cK G.1) I) (hR : RN G.2.2.2.1 I) (he : I 538 13 = nI G.2.2.2.2) :
    ∃ J, GM G J ∧ (J 538 0 = I 538 0 ∧ J 538 1 = 0 ∧ J 538 14 = 1 ∧ J 538 24 = 0 ∧ J 538 26 = 0 ∧ J 538 37 = -1) ∧ J 538 8 = I 538 8 ∧ FY I J ∧ J 542 = I 542 ∧ ∀ q, (pm_C (d + 1) 46 [.ref 538, .int (nI G.2.1), .int (nI G.2.2.1)] (Wm I k o) q ↔ q = (.inl (some (.int (nI G.1.length))), Wm J k o)) := by
  have hK1 : I 538 5 = nI G.1.length := by rw [hK.1, cK_len]
  obtain ⟨I1, hI1⟩ : ∃ I1, I1 = pm_up (pm_up (pm_up (pm_up (pm_up (pm_up I 538 14 1) 538 15 (nI G.2.1)) 538 16 (nI G.2.2.1)) 538 17 (nI G.2.2.2.1.length)) 538 20 (nI G.2.2.2.2)) 538 21 (nI G.1.length) := ⟨_, rfl⟩
  have s1 : ∀ x j, ¬ (x = 538 ∧ (j = 14 ∨ j = 15 ∨ j = 16 ∨ j = 17 ∨ j = 20 ∨ j = 21)) → I1 x j = I x j := fun x j hx => by rw [hI1, up_ne (by omega), up_ne (by omega), up_ne (by omega), up_ne (by omega), up_ne (by omega), up_ne (by omega)]
  have v17 : I1 538 17 = nI G.2.2.2.1.length := by rw [hI1, up_ne (by omega), up_ne (by omega), up_eq]
  obtain ⟨J1, a1, a2, a3⟩ := c46_r (d := d) (k := k) (o := o) (y1 := some (.int (nI G.2.1))) (y2 := some (.int (nI G.2.2.1))) hr G.2.2.2.1.length 0 I1 (by omega) v17 (fun j hj => ⟨_, by rw [s1 _ _ (by omega)]; exact (hR.2 j hj).1⟩)
  have v21 : J1 538 21 = nI G.1.length := by rw [a2 _ _ (by omega), hI1, up_eq]
  obtain ⟨J2, b1, b2, b3⟩ := c46_c (d := d) (k := k) (o := o) (y1 := some (.int (nI G.2.1))) (y2 := some (.int (nI G.2.2.1))) hc G.1.length 0 J1 (by omega) v21
  obtain ⟨J3, hJ3⟩ : ∃ J3, J3 = pm_up (pm_up (pm_up (pm_up J2 538 24 0) 538 26 0) 538 37 (-1)) 538 1 0 := ⟨_, rfl⟩
  have s3 : ∀ x j, ¬ (x = 538 ∧ (j = 24 ∨ j = 26 ∨ j = 37 ∨ j = 1)) → J3 x j = J2 x j := fun x j hx => by rw [hJ3, up_ne (by omega), up_ne (by omega), up_ne (by omega), up_ne (by omega)]
  have t3 : ∀ x j, ¬ (x = 538 ∧ (j = 24 ∨ j = 26 ∨ j = 37 ∨ j = 1)) → ¬ (545 ≤ x ∧ x ≤ 548) → J3 x j = I1 x j := fun x j hx hy => by rw [s3 x j hx, b2 x j (by omega), a2 x j (by omega)]
  have cg : ∀ j, j < G.1.length → (cK G.1).getD j (0, 0) = (nI (G.1.getD j (0, 0)).1, nI (G.1.getD j (0, 0)).2) := by
    intro j hj
    unfold cK
    rw [List.getD_eq_getElem?_getD, List.getD_eq_getElem?_getD, List.getElem?_map, List.getElem?_eq_getElem hj]
    rfl
  refine ⟨J3, ⟨⟨hc, fun j hj => ?_⟩, ?_, ?_, ?_, ?_, ?_, fun r hr' => ?_⟩, ⟨?_, ?_, ?_, ?_, ?_, ?_⟩, ?_, ?_, ?_, fun q => ?_⟩
  · rw [s3 _ _ (by omega), s3 _ _ (by omega), (b1 j (by omega) hj).1, (b1 j (by omega) hj).2, a2 _ _ (by omega), a2 _ _ (by omega), s1 _ _ (by omega), s1 _ _ (by omega)]
    have := hK.2 j (by rw [cK_len]; exact hj)
    rw [cg j hj] at this
    exact this
  · rw [t3 _ _ (by omega) (by omega), hI1, up_ne (by omega), up_ne (by omega), up_ne (by omega), up_ne (by omega), up_eq]
  · rw [t3 _ _ (by omega) (by omega), hI1, up_ne (by omega), up_ne (by omega), up_ne (by omega), up_eq]
  · rw [t3 _ _ (by omega) (by omega)]; exact v17
  · rw [t3 _ _ (by omega) (by omega), hI1, up_ne (by omega), up_eq]
  · rw [t3 _ _ (by omega) (by omega), hI1, up_eq]
  · rw [s3 _ _ (by omega), s3 _ _ (by omega), b2 _ _ (by omega), b2 _ _ (by omega), (a1 r (by omega) hr').1, (a1 r (by omega) hr').2, s1 _ _ (by omega), s1 _ _ (by omega)]
    exact hR.2 r hr'
  · rw [t3 _ _ (by omega) (by omega), s1 _ _ (by omega)]
  · rw [hJ3, up_eq]
  · rw [t3 _ _ (by omega) (by omega), hI1, up_ne (by omega), up_ne (by omega), up_ne (by omega), up_ne (by omega), up_ne (by omega), up_eq]
  · rw [hJ3, up_ne (by omega), up_ne (by omega), up_ne (by omega), up_eq]
  · rw [hJ3, up_ne (by omega), up_ne (by omega), up_eq]
  · rw [hJ3, up_ne (by omega), up_eq]
  · rw [t3 _ _ (by omega) (by omega), s1 _ _ (by omega)]
  · intro x j h1 h2
    rw [t3 _ _ (by omega) (by omega), s1 _ _ (by omega)]
  · funext j
    rw [t3 _ _ (by omega) (by omega), s1 _ _ (by omega)]
  · have h10 : I 538 10 = nI G.2.2.2.1.length := hR.1
    have v21' : J2 538 21 = nI G.1.length := by rw [b2 _ _ (by omega)]; exact v21
    have a3' := a3 q
    have b3' := b3 q
    rw [show nI 0 = (0 : Int32) from rfl] at a3' b3'
    rw [n46]
    simp (decide := true) only [q46_0, q46_1, q46_2, q46_5, q46_6, q46_7, q46_10, q46_11, q46_12, q46_15, q46_16, q46_17, q46_20, q46_23, q46_24, q46_25, q46_28, q46_31, q46_32, q46_33, q46_36, q46_39, q46_40, W_1, W_I, W_mk, W_tk, pm_rv, rf_0_0, rf_0_1, rf_0_2, rf_0_3, rf_0_4, rf_0_7, rf_0_8, rf_1_0, rf_1_2, rf_3_0, rf_3_1, rf_3_6, rf_3_7, rf_3_8, rf_9_0, rf_9_1, rf_10_0, rf_10_1, rf_10_6, rf_10_7, rf_10_8, rf_17_0, rf_17_1, rf_538_2, rf_538_6, rf_538_7, rf_538_9, rf_538_11, rf_538_12, rf_538_18, rf_538_19, rf_538_22, rf_538_23, rf_538_25, rf_538_27, rf_538_28, rf_538_30, rf_538_31, rf_538_32, rf_538_33, rf_538_34, rf_538_35, rf_538_36, ob_0, ob_1, ob_3, ob_9, ob_10, ob_17, ob_538, ar_2, ar_4, ar_5, ar_6, ar_7, ar_8, ar_11, ar_12, ar_13, ar_14, ar_15, ar_16, ar_116, ar_117, ar_539, ar_540, ar_541, ar_542, ar_543, ar_544, ar_545, ar_546, ar_547, ar_548, ar_549, ar_550, ar_551, ar_552, ar_553, ar_554, ar_555, ar_556, ar_557, ar_558, ex_eq, ex_ite, pm_bk_r, pm_bk_t, ol_nil, ol_one, true_and, and_true, false_and, and_false, reduceIte, Nat.reduceEqDiff, up_at, Nat.add_left_cancel_iff, h10, he, hK1]
    rw [← hI1, a3']
    simp (decide := true) only [q46_79, q46_80, b3', q46_119, q46_120, q46_121, q46_124, q46_125, q46_126, q46_129, q46_130, q46_131, q46_134, q46_135, q46_136, q46_139, q46_140, q46_143, W_1, W_I, W_mk, W_tk, pm_rv, rf_0_0, rf_0_1, rf_0_2, rf_0_3, rf_0_4, rf_0_7, rf_0_8, rf_1_0, rf_1_2, rf_3_0, rf_3_1, rf_3_6, rf_3_7, rf_3_8, rf_9_0, rf_9_1, rf_10_0, rf_10_1, rf_10_6, rf_10_7, rf_10_8, rf_17_0, rf_17_1, rf_538_2, rf_538_6, rf_538_7, rf_538_9, rf_538_11, rf_538_12, rf_538_18, rf_538_19, rf_538_22, rf_538_23, rf_538_25, rf_538_27, rf_538_28, rf_538_30, rf_538_31, rf_538_32, rf_538_33, rf_538_34, rf_538_35, rf_538_36, ob_0, ob_1, ob_3, ob_9, ob_10, ob_17, ob_538, ar_2, ar_4, ar_5, ar_6, ar_7, ar_8, ar_11, ar_12, ar_13, ar_14, ar_15, ar_16, ar_116, ar_117, ar_539, ar_540, ar_541, ar_542, ar_543, ar_544, ar_545, ar_546, ar_547, ar_548, ar_549, ar_550, ar_551, ar_552, ar_553, ar_554, ar_555, ar_556, ar_557, ar_558, ex_eq, ex_ite, pm_bk_r, pm_bk_t, ol_nil, ol_one, true_and, and_true, false_and, and_false, reduceIte, Nat.reduceEqDiff, up_at, Nat.add_left_cancel_iff, v21']
    rw [hJ3]
def RL (x : Nat × List (Nat × Nat) × List (Bool × Nat × Nat)) : Prop := x.2.2.length ≤ 8
/-- the rules -/
theorem c45_l (hT : TX T) {y1 y2 : Option Value} : ∀ n p K R W (I : Nat → Nat → Int32), R.length + n = 8 → MT T p false (cK K) W I → RN R I → K.length ≤ p → p ≤ T.length →
    (e_rules T n p K R = none → ∃ J, m_bad T 3 J ∧ FO I J ∧ ∀ q, (pm_R (d + 8) 45 105 [some (.ref 538), y1, y2] [] (Wm I k o) q ↔ pm_R (d + 8) 45 137 [some (.ref 538), y1, y2] [] (Wm J k o) q)) ∧
    (∀ x, e_rules T n p K R = some x → x.2.2.length ≤ 8 ∧ x.2.1.length ≤ x.1 ∧ x.1 ≤ T.length ∧ ((∃ J W', MT T x.1 false (cK x.2.1) W' J ∧ RN x.2.2 J ∧ FO I J ∧ ∀ q, (pm_R (d + 8) 45 105 [some (.ref 538), y1, y2] [] (Wm I k o) q ↔ pm_R (d + 8) 45 137 [some (.ref 538), y1, y2] [] (Wm J k o) q)) ∨ (nx T x.1 ≠ 69 ∧ ∃ J, m_bad T 3 J ∧ FO I J ∧ ∀ q, (pm_R (d + 8) 45 105 [some (.ref 538), y1, y2] [] (Wm I k o) q ↔ pm_R (d + 8) 45 137 [some (.ref 538), y1, y2] [] (Wm J k o) q)))) := by
  have h240 := hT.1
  have hstep : ∀ p (K : List (Nat × Nat)) W (I : Nat → Nat → Int32), MT T p false (cK K) W I → p ≤ T.length → ∀ q, (pm_R (d + 8) 45 105 [some (.ref 538), y1, y2] [] (Wm I k o) q ↔ if nx T p = 77 ∨ nx T p = 80 then pm_R (d + 8) 45 130 [some (.ref 538), y1, y2] [] (Wm I k o) q else pm_R (d + 8) 45 137 [some (.ref 538), y1, y2] [] (Wm I k o) q) := by
    intro p K W I h hp q
    have h126 := nx_126 hT p
    have h4 : I 538 4 = 0 := h.2.2.1
    have a26 : ∀ q, (pm_C (d + 8) 26 [.ref 538] (Wm I k o) q ↔ q = (.inl (some (.int (nI (nx T p)))), Wm I k o)) := fun q => c26 (d := d + 7) hT h.1 h.2.1 (by omega)
    have e77 : (nI (nx T p) = 77) ↔ nx T p = 77 := sm_inj (b := 77) (by omega) (by omega)
    have e80 : (nI (nx T p) = 80) ↔ nx T p = 80 := sm_inj (b := 80) (by omega) (by omega)
    rw [q45_105]
    simp (decide := true) only [q45_106, q45_109, q45_112, q45_113, q45_116, q45_118, q45_121, q45_122, q45_125, q45_127, W_1, W_I, W_mk, W_tk, pm_rv, rf_0_0, rf_0_1, rf_0_2, rf_0_3, rf_0_4, rf_0_7, rf_0_8, rf_1_0, rf_1_2, rf_3_0, rf_3_1, rf_3_6, rf_3_7, rf_3_8, rf_9_0, rf_9_1, rf_10_0, rf_10_1, rf_10_6, rf_10_7, rf_10_8, rf_17_0, rf_17_1, rf_538_2, rf_538_6, rf_538_7, rf_538_9, rf_538_11, rf_538_12, rf_538_18, rf_538_19, rf_538_22, rf_538_23, rf_538_25, rf_538_27, rf_538_28, rf_538_30, rf_538_31, rf_538_32, rf_538_33, rf_538_34, rf_538_35, rf_538_36, ob_0, ob_1, ob_3, ob_9, ob_10, ob_17, ob_538, ar_2, ar_4, ar_5, ar_6, ar_7, ar_8, ar_11, ar_12, ar_13, ar_14, ar_15, ar_16, ar_116, ar_117, ar_539, ar_540, ar_541, ar_542, ar_543, ar_544, ar_545, ar_546, ar_547, ar_548, ar_549, ar_550, ar_551, ar_552, ar_553, ar_554, ar_555, ar_556, ar_557, ar_558, ex_eq, ex_ite, pm_bk_r, pm_bk_t, ol_nil, ol_one, true_and, and_true, false_and, and_false, reduceIte, Nat.reduceEqDiff, up_at, Nat.add_left_cancel_iff, h4, a26, e77, e80]
    by_cases h1 : nx T p = 77
    · simp only [h1, reduceIte, true_or]
    · by_cases h2 : nx T p = 80
      · simp only [h2, reduceIte, or_true]
        simp
      · simp only [h1, h2, reduceIte, or_self]
  have hbadgo : ∀ J : Nat → Nat → Int32, m_bad T 3 J → ∀ q, (pm_R (d + 8) 45 105 [some (.ref 538), y1, y2] [] (Wm J k o) q ↔ pm_R (d + 8) 45 137 [some (.ref 538), y1, y2] [] (Wm J k o) q) := by
    intro J hb q
    obtain ⟨p, K, W, h1, -⟩ := hb
    have h4 : J 538 4 = 1 := h1.2.2.1
    rw [q45_105]
    simp (decide := true) only [q45_106, q45_109, W_1, W_I, W_mk, W_tk, pm_rv, rf_0_0, rf_0_1, rf_0_2, rf_0_3, rf_0_4, rf_0_7, rf_0_8, rf_1_0, rf_1_2, rf_3_0, rf_3_1, rf_3_6, rf_3_7, rf_3_8, rf_9_0, rf_9_1, rf_10_0, rf_10_1, rf_10_6, rf_10_7, rf_10_8, rf_17_0, rf_17_1, rf_538_2, rf_538_6, rf_538_7, rf_538_9, rf_538_11, rf_538_12, rf_538_18, rf_538_19, rf_538_22, rf_538_23, rf_538_25, rf_538_27, rf_538_28, rf_538_30, rf_538_31, rf_538_32, rf_538_33, rf_538_34, rf_538_35, rf_538_36, ob_0, ob_1, ob_3, ob_9, ob_10, ob_17, ob_538, ar_2, ar_4, ar_5, ar_6, ar_7, ar_8, ar_11, ar_12, ar_13, ar_14, ar_15, ar_16, ar_116, ar_117, ar_539, ar_540, ar_541, ar_542, ar_543, ar_544, ar_545, ar_546, ar_547, ar_548, ar_549, ar_550, ar_551, ar_552, ar_553, ar_554, ar_555, ar_556, ar_557, ar_558, ex_eq, ex_ite, pm_bk_r, pm_bk_t, ol_nil, ol_one, true_and, and_true, false_and, and_false, reduceIte, Nat.reduceEqDiff, up_at, Nat.add_left_cancel_iff, h4]
  intro n
  induction n with
  | zero =>
    intro p K R W I hn h hR hl hp
    refine ⟨fun hx => (by cases hx), fun x hx => ?_⟩
    injection hx with hx
    subst hx
    refine ⟨by show R.length ≤ 8; omega, hl, hp, ?_⟩
    by_cases hM : nx T p = 77 ∨ nx T p = 80
    · right
      refine ⟨by show nx T p ≠ 69; omega, ?_⟩
      obtain ⟨J, b1, b2, b3⟩ := (c44 (d := d) (k := k) (o := o) hT h hR (by omega) hl hM).1 (by omega)
      refine ⟨J, b1, b2, fun q => ?_⟩
      rw [hstep p K W I h hp, if_pos hM]
      simp only [q45_130, q45_131, q45_134, W_1, W_I, W_mk, W_tk, pm_rv, rf_0_0, rf_0_1, rf_0_2, rf_0_3, rf_0_4, rf_0_7, rf_0_8, rf_1_0, rf_1_2, rf_3_0, rf_3_1, rf_3_6, rf_3_7, rf_3_8, rf_9_0, rf_9_1, rf_10_0, rf_10_1, rf_10_6, rf_10_7, rf_10_8, rf_17_0, rf_17_1, rf_538_2, rf_538_6, rf_538_7, rf_538_9, rf_538_11, rf_538_12, rf_538_18, rf_538_19, rf_538_22, rf_538_23, rf_538_25, rf_538_27, rf_538_28, rf_538_30, rf_538_31, rf_538_32, rf_538_33, rf_538_34, rf_538_35, rf_538_36, ob_0, ob_1, ob_3, ob_9, ob_10, ob_17, ob_538, ar_2, ar_4, ar_5, ar_6, ar_7, ar_8, ar_11, ar_12, ar_13, ar_14, ar_15, ar_16, ar_116, ar_117, ar_539, ar_540, ar_541, ar_542, ar_543, ar_544, ar_545, ar_546, ar_547, ar_548, ar_549, ar_550, ar_551, ar_552, ar_553, ar_554, ar_555, ar_556, ar_557, ar_558, ex_eq, ex_ite, pm_bk_r, pm_bk_t, ol_nil, ol_one, true_and, and_true, false_and, and_false, reduceIte, Nat.reduceEqDiff, up_at, Nat.add_left_cancel_iff, b3, hbadgo J b1]
    · left
      refine ⟨I, W, h, hR, FO.refl, fun q => ?_⟩
      rw [hstep p K W I h hp, if_neg hM]
  | succ n ih =>
    intro p K R W I hn h hR hl hp
    unfold e_rules
    by_cases hM : nx T p = 77 ∨ nx T p = 80
    · rw [if_pos hM]
      have hX := (c44 (d := d) (k := k) (o := o) hT h hR (by omega) hl hM).2
      cases er : e_rule T p with
      | none =>
        refine ⟨fun _ => ?_, fun x hx => (by cases hx)⟩
        obtain ⟨J, b1, b2, b3⟩ := hX.1 (by omega) er
        refine ⟨J, b1, b2, fun q => ?_⟩
        rw [hstep p K W I h hp, if_pos hM]
        simp only [q45_130, q45_131, q45_134, W_1, W_I, W_mk, W_tk, pm_rv, rf_0_0, rf_0_1, rf_0_2, rf_0_3, rf_0_4, rf_0_7, rf_0_8, rf_1_0, rf_1_2, rf_3_0, rf_3_1, rf_3_6, rf_3_7, rf_3_8, rf_9_0, rf_9_1, rf_10_0, rf_10_1, rf_10_6, rf_10_7, rf_10_8, rf_17_0, rf_17_1, rf_538_2, rf_538_6, rf_538_7, rf_538_9, rf_538_11, rf_538_12, rf_538_18, rf_538_19, rf_538_22, rf_538_23, rf_538_25, rf_538_27, rf_538_28, rf_538_30, rf_538_31, rf_538_32, rf_538_33, rf_538_34, rf_538_35, rf_538_36, ob_0, ob_1, ob_3, ob_9, ob_10, ob_17, ob_538, ar_2, ar_4, ar_5, ar_6, ar_7, ar_8, ar_11, ar_12, ar_13, ar_14, ar_15, ar_16, ar_116, ar_117, ar_539, ar_540, ar_541, ar_542, ar_543, ar_544, ar_545, ar_546, ar_547, ar_548, ar_549, ar_550, ar_551, ar_552, ar_553, ar_554, ar_555, ar_556, ar_557, ar_558, ex_eq, ex_ite, pm_bk_r, pm_bk_t, ol_nil, ol_one, true_and, and_true, false_and, and_false, reduceIte, Nat.reduceEqDiff, up_at, Nat.add_left_cancel_iff, b3, hbadgo J b1]
      | some y =>
        obtain ⟨p', C1, C2⟩ := y
        obtain ⟨J, W', g1, g2, g3, g4⟩ := hX.2 (by omega) _ er
        have hg := e_rule_ok er
        have hg3 : C1.length + C2.length + 2 + p ≤ p' := hg.2.2.1
        have hr := ih p' _ _ W' J (by rw [List.length_append]; show R.length + 1 + n = 8; omega) g1 g2 (by simp only [List.length_append, List.length_singleton]; omega) hg.2.1
        have hopen2 : ∀ q, (pm_R (d + 8) 45 105 [some (.ref 538), y1, y2] [] (Wm I k o) q ↔ pm_R (d + 8) 45 105 [some (.ref 538), y1, y2] [] (Wm J k o) q) := by
          intro q
          rw [hstep p K W I h hp, if_pos hM]
          simp only [q45_130, q45_131, q45_134, W_1, W_I, W_mk, W_tk, pm_rv, rf_0_0, rf_0_1, rf_0_2, rf_0_3, rf_0_4, rf_0_7, rf_0_8, rf_1_0, rf_1_2, rf_3_0, rf_3_1, rf_3_6, rf_3_7, rf_3_8, rf_9_0, rf_9_1, rf_10_0, rf_10_1, rf_10_6, rf_10_7, rf_10_8, rf_17_0, rf_17_1, rf_538_2, rf_538_6, rf_538_7, rf_538_9, rf_538_11, rf_538_12, rf_538_18, rf_538_19, rf_538_22, rf_538_23, rf_538_25, rf_538_27, rf_538_28, rf_538_30, rf_538_31, rf_538_32, rf_538_33, rf_538_34, rf_538_35, rf_538_36, ob_0, ob_1, ob_3, ob_9, ob_10, ob_17, ob_538, ar_2, ar_4, ar_5, ar_6, ar_7, ar_8, ar_11, ar_12, ar_13, ar_14, ar_15, ar_16, ar_116, ar_117, ar_539, ar_540, ar_541, ar_542, ar_543, ar_544, ar_545, ar_546, ar_547, ar_548, ar_549, ar_550, ar_551, ar_552, ar_553, ar_554, ar_555, ar_556, ar_557, ar_558, ex_eq, ex_ite, pm_bk_r, pm_bk_t, ol_nil, ol_one, true_and, and_true, false_and, and_false, reduceIte, Nat.reduceEqDiff, up_at, Nat.add_left_cancel_iff, g4]
        simp only []
        refine ⟨fun hx => ?_, fun x hx => ?_⟩
        · obtain ⟨J', f1, f2, f3⟩ := hr.1 hx
          exact ⟨J', f1, g3.trans f2, fun q => (hopen2 q).trans (f3 q)⟩
        · obtain ⟨b1, b2, b3, b4⟩ := hr.2 x hx
          refine ⟨b1, b2, b3, ?_⟩
          rcases b4 with ⟨J', W2, f1, f2, f3, f4⟩ | ⟨f0, J', f1, f2, f3⟩
          · exact Or.inl ⟨J', W2, f1, f2, g3.trans f3, fun q => (hopen2 q).trans (f4 q)⟩
          · exact Or.inr ⟨f0, J', f1, g3.trans f2, fun q => (hopen2 q).trans (f3 q)⟩
    · rw [if_neg hM]
      refine ⟨fun hx => (by cases hx), fun x hx => ?_⟩
      injection hx with hx
      subst hx
      refine ⟨by show R.length ≤ 8; omega, hl, hp, Or.inl ⟨I, W, h, hR, FO.refl, fun q => ?_⟩⟩
      rw [hstep p K W I h hp, if_neg hM]
/-- what a wrong text comes to -/
def FZ (I J : Nat → Nat → Int32) : Prop := ∀ x j, ¬ (x = 538 ∧ (j = 0 ∨ j = 3 ∨ j = 4 ∨ j = 5 ∨ j = 8 ∨ j = 10 ∨ j = 13)) → ¬ (540 ≤ x ∧ x ≤ 544) → J x j = I x j
theorem FO.fz {I J : Nat → Nat → Int32} (h : FO I J) : FZ I J := fun x j a b => h x j (by omega) b
theorem c45_b (hT : TX T) {I : Nat → Nat → Int32} (h : m_bad T 3 I) {v1 v2 : Int32} : ∃ J, J 538 0 = 1 ∧ (∃ W, WM W J) ∧ FZ I J ∧ ∀ q, (pm_R (d + 8) 45 137 [some (.ref 538), some (.int v1), some (.int v2)] [] (Wm I k o) q ↔ q = (.inl (some (.int 0)), Wm J k o)) := by
  have h240 := hT.1
  obtain ⟨J1, a1, a2, a3⟩ := h.need (d := d + 5) (k := k) (o := o) hT (x := 69) (by omega) (by omega)
  have a3' : ∀ q, (pm_C (d + 8) 28 [.ref 538, .int 69] (Wm I k o) q ↔ q = (.inl none, Wm J1 k o)) := a3
  obtain ⟨J2, hJ2⟩ : ∃ J2, J2 = pm_up J1 538 13 (J1 538 5) := ⟨_, rfl⟩
  have b2 : m_bad T 3 J2 := by
    obtain ⟨p, K, W, h1, h2, h3⟩ := a1
    refine ⟨p, K, W, ⟨⟨?_, fun i hi => ?_⟩, ?_, ?_, h1.2.2.2.1.cg ?_ ?_ ?_, h1.2.2.2.2.cg ?_ ?_⟩, h2, h3⟩
    · rw [hJ2, up_ne (by omega)]; exact h1.1.1
    · rw [hJ2, up_ne (by omega)]; exact h1.1.2 i hi
    · rw [hJ2, up_ne (by omega)]; exact h1.2.1
    · rw [hJ2, up_ne (by omega)]; exact h1.2.2.1
    · rw [hJ2, up_ne (by omega)]
    · rw [hJ2, up_row (by omega)]
    · rw [hJ2, up_row (by omega)]
    · rw [hJ2, up_ne (by omega)]
    · rw [hJ2, up_row (by omega)]
  have h24 : J2 538 4 = 1 := by obtain ⟨p, K, W, h1, -⟩ := b2; exact h1.2.2.1
  obtain ⟨J3, c1, c2, c3⟩ := b2.e (d := d + 7) (k := k) (o := o) h240 (by omega) (x := 17) (y := 0)
  obtain ⟨J4, e1, e2, e3⟩ := c1.need (d := d + 5) (k := k) (o := o) hT (x := 59) (by omega) (by omega)
  have e3' : ∀ q, (pm_C (d + 8) 28 [.ref 538, .int 59] (Wm J3 k o) q ↔ q = (.inl none, Wm J4 k o)) := e3
  obtain ⟨p, K, W, h1, -⟩ := e1
  have h44 : J4 538 4 = 1 := h1.2.2.1
  refine ⟨pm_up J4 538 0 1, up_eq, ⟨W, h1.2.2.2.2.cg (up_ne (by omega)) (up_row (by omega))⟩, ?_, fun q => ?_⟩
  · intro x j hx hy
    rw [up_ne (by omega), e2 _ _ (by omega) (by omega) (by omega) (by omega), c2 _ _ (by omega) (by omega) (by omega) (by omega), hJ2, up_ne (by omega), a2 _ _ (by omega) (by omega) (by omega) (by omega)]
  · simp (decide := true) only [q45_137, q45_138, q45_140, q45_143, q45_144, q45_145, q45_148, W_1, W_I, W_mk, W_tk, pm_rv, rf_0_0, rf_0_1, rf_0_2, rf_0_3, rf_0_4, rf_0_7, rf_0_8, rf_1_0, rf_1_2, rf_3_0, rf_3_1, rf_3_6, rf_3_7, rf_3_8, rf_9_0, rf_9_1, rf_10_0, rf_10_1, rf_10_6, rf_10_7, rf_10_8, rf_17_0, rf_17_1, rf_538_2, rf_538_6, rf_538_7, rf_538_9, rf_538_11, rf_538_12, rf_538_18, rf_538_19, rf_538_22, rf_538_23, rf_538_25, rf_538_27, rf_538_28, rf_538_30, rf_538_31, rf_538_32, rf_538_33, rf_538_34, rf_538_35, rf_538_36, ob_0, ob_1, ob_3, ob_9, ob_10, ob_17, ob_538, ar_2, ar_4, ar_5, ar_6, ar_7, ar_8, ar_11, ar_12, ar_13, ar_14, ar_15, ar_16, ar_116, ar_117, ar_539, ar_540, ar_541, ar_542, ar_543, ar_544, ar_545, ar_546, ar_547, ar_548, ar_549, ar_550, ar_551, ar_552, ar_553, ar_554, ar_555, ar_556, ar_557, ar_558, ex_eq, ex_ite, pm_bk_r, pm_bk_t, ol_nil, ol_one, true_and, and_true, false_and, and_false, reduceIte, Nat.reduceEqDiff, up_at, Nat.add_left_cancel_iff, a3']
    rw [← hJ2]
    simp (decide := true) only [q45_151, q45_152, q45_155, q45_158, q45_159, q45_160, q45_163, q45_164, q45_166, q45_167, q45_170, q45_171, q45_173, q45_176, q45_177, q45_178, q45_181, q45_184, q45_185, q45_188, q45_189, q45_192, q45_195, q45_196, q45_199, q45_200, q45_203, q45_206, q45_209, q45_210, q45_213, q45_214, q45_217, q45_218, q45_221, q45_224, q45_225, q45_234, W_1, W_I, W_mk, W_tk, pm_rv, rf_0_0, rf_0_1, rf_0_2, rf_0_3, rf_0_4, rf_0_7, rf_0_8, rf_1_0, rf_1_2, rf_3_0, rf_3_1, rf_3_6, rf_3_7, rf_3_8, rf_9_0, rf_9_1, rf_10_0, rf_10_1, rf_10_6, rf_10_7, rf_10_8, rf_17_0, rf_17_1, rf_538_2, rf_538_6, rf_538_7, rf_538_9, rf_538_11, rf_538_12, rf_538_18, rf_538_19, rf_538_22, rf_538_23, rf_538_25, rf_538_27, rf_538_28, rf_538_30, rf_538_31, rf_538_32, rf_538_33, rf_538_34, rf_538_35, rf_538_36, ob_0, ob_1, ob_3, ob_9, ob_10, ob_17, ob_538, ar_2, ar_4, ar_5, ar_6, ar_7, ar_8, ar_11, ar_12, ar_13, ar_14, ar_15, ar_16, ar_116, ar_117, ar_539, ar_540, ar_541, ar_542, ar_543, ar_544, ar_545, ar_546, ar_547, ar_548, ar_549, ar_550, ar_551, ar_552, ar_553, ar_554, ar_555, ar_556, ar_557, ar_558, ex_eq, ex_ite, pm_bk_r, pm_bk_t, ol_nil, ol_one, true_and, and_true, false_and, and_false, reduceIte, Nat.reduceEqDiff, up_at, Nat.add_left_cancel_iff, h24, c3, e3', h44]
end MCM
