/-! THE REFERENCE: rule -/
theorem m_bad.mono {T : List Nat} {c c' : Nat} (hc : c ≤ c') {J : Nat → Nat → Int32} (h : m_bad T c J) : m_bad T c' J := by
  obtain ⟨p, K, W, h1, h2, h3⟩ := h
  exact ⟨p, K, W, h1, h2, by omega⟩
def FO (I J : Nat → Nat → Int32) : Prop := ∀ x j, ¬ (x = 538 ∧ (j = 3 ∨ j = 4 ∨ j = 5 ∨ j = 8 ∨ j = 10 ∨ j = 13)) → ¬ (540 ≤ x ∧ x ≤ 544) → J x j = I x j
theorem FO.refl {I : Nat → Nat → Int32} : FO I I := fun _ _ _ _ => rfl
theorem FO.trans {I J K : Nat → Nat → Int32} (h1 : FO I J) (h2 : FO J K) : FO I K := fun x j a b => (h2 x j a b).trans (h1 x j a b)
theorem FN.fo {I J : Nat → Nat → Int32} (h : FN I J) : FO I J := fun x j a b => h x j (by omega) (by omega) (by omega) (by omega)
def RN (R : List (Bool × Nat × Nat)) (I : Nat → Nat → Int32) : Prop := I 538 10 = nI R.length ∧ ∀ r, r < R.length → I 543 r = bI (R.getD r (false, 0, 0)).1 ∧ I 544 r = nI (R.getD r (false, 0, 0)).2.1
theorem RN.fn {R : List (Bool × Nat × Nat)} {I J : Nat → Nat → Int32} (h : RN R I) (hf : FN I J) : RN R J := ⟨by rw [hf _ _ (by omega) (by omega) (by omega) (by omega)]; exact h.1, fun r hr => by rw [hf _ _ (by omega) (by omega) (by omega) (by omega), hf _ _ (by omega) (by omega) (by omega) (by omega)]; exact h.2 r hr⟩
theorem effs_stk {T : List Nat} {ch : Bool} {n p : Nat} {C : List (Nat × Nat)} (h : nx T p ≠ 44) : e_effs T ch n p C = some (p, C) := by
  cases n with
  | zero => rfl
  | succ n => exact if_neg h
section MRU
variable {d k : Nat} {o : Int64} {T : List Nat}
/-- behind an effect that read wrong -/
theorem c44_b {c : Nat} {I : Nat → Nat → Int32} (h : m_bad T c I) {y1 y2 : Option Value} : ∀ q, (pm_R (d + 7) 44 135 [some (.ref 538), y1, y2] [] (Wm I k o) q ↔ pm_R (d + 7) 44 160 [some (.ref 538), y1, some (.int 0)] [] (Wm I k o) q) := by
  intro q
  obtain ⟨p, K, W, h1, -⟩ := h
  have h4 : I 538 4 = 1 := h1.2.2.1
  simp (decide := true) only [q44_135, q44_136, q44_139, q44_155, q44_156, q44_157, W_1, W_I, W_mk, W_tk, pm_rv, rf_0_0, rf_0_1, rf_0_2, rf_0_3, rf_0_4, rf_0_7, rf_0_8, rf_1_0, rf_1_2, rf_3_0, rf_3_1, rf_3_6, rf_3_7, rf_3_8, rf_9_0, rf_9_1, rf_10_0, rf_10_1, rf_10_6, rf_10_7, rf_10_8, rf_17_0, rf_17_1, rf_538_2, rf_538_6, rf_538_7, rf_538_9, rf_538_11, rf_538_12, rf_538_18, rf_538_19, rf_538_22, rf_538_23, rf_538_25, rf_538_27, rf_538_28, rf_538_30, rf_538_31, rf_538_32, rf_538_33, rf_538_34, rf_538_35, rf_538_36, ob_0, ob_1, ob_3, ob_9, ob_10, ob_17, ob_538, ar_2, ar_4, ar_5, ar_6, ar_7, ar_8, ar_11, ar_12, ar_13, ar_14, ar_15, ar_16, ar_116, ar_117, ar_539, ar_540, ar_541, ar_542, ar_543, ar_544, ar_545, ar_546, ar_547, ar_548, ar_549, ar_550, ar_551, ar_552, ar_553, ar_554, ar_555, ar_556, ar_557, ar_558, ex_eq, ex_ite, pm_bk_r, pm_bk_t, ol_nil, ol_one, true_and, and_true, false_and, and_false, reduceIte, Nat.reduceEqDiff, up_at, Nat.add_left_cancel_iff, h4]
  rw [q44_126]
  simp (decide := true) only [q44_127, ex_eq, ex_ite, pm_bk_r, pm_bk_t, ol_nil, ol_one, true_and, and_true, false_and, and_false, reduceIte, Nat.reduceEqDiff, up_at, Nat.add_left_cancel_iff]
theorem c44_l (hT : TX T) {ch : Bool} {K0 : List (Nat × Nat)} : ∀ n p C W (I : Nat → Nat → Int32) (y2 : Option Value), T.length ≤ n + p → MT T p false (cK (K0 ++ C)) W I → (K0 ++ C).length ≤ p → p ≤ T.length →
    (e_effs T ch n p C = none → ∃ J z2, m_bad T 1 J ∧ FN I J ∧ ∀ q, (pm_R (d + 7) 44 135 [some (.ref 538), some (.int (bI ch)), y2] [] (Wm I k o) q ↔ pm_R (d + 7) 44 160 [some (.ref 538), some (.int (bI ch)), z2] [] (Wm J k o) q)) ∧
    (∀ x, e_effs T ch n p C = some x → (∃ J W' z2, MT T x.1 false (cK (K0 ++ x.2)) W' J ∧ FN I J ∧ ∀ q, (pm_R (d + 7) 44 135 [some (.ref 538), some (.int (bI ch)), y2] [] (Wm I k o) q ↔ pm_R (d + 7) 44 160 [some (.ref 538), some (.int (bI ch)), z2] [] (Wm J k o) q)) ∨ (m_stk 0 (nx T x.1) ∧ ∃ J z2, m_bad T 1 J ∧ FN I J ∧ ∀ q, (pm_R (d + 7) 44 135 [some (.ref 538), some (.int (bI ch)), y2] [] (Wm I k o) q ↔ pm_R (d + 7) 44 160 [some (.ref 538), some (.int (bI ch)), z2] [] (Wm J k o) q))) := by
  have h240 := hT.1
  have hno : ∀ p C W (I : Nat → Nat → Int32) (y2 : Option Value), nx T p ≠ 44 → MT T p false (cK (K0 ++ C)) W I → p ≤ T.length → ∃ J W' z2, MT T p false (cK (K0 ++ C)) W' J ∧ FN I J ∧ ∀ q, (pm_R (d + 7) 44 135 [some (.ref 538), some (.int (bI ch)), y2] [] (Wm I k o) q ↔ pm_R (d + 7) 44 160 [some (.ref 538), some (.int (bI ch)), z2] [] (Wm J k o) q) := by
    intro p C W I y2 n44 h hp
    have h4 : I 538 4 = 0 := h.2.2.1
    obtain ⟨J, g1, g2, g3⟩ := c27 (d := d + 5) (k := k) (o := o) (c := 44) hT h (by omega) (by omega)
    rw [if_neg n44] at g1
    have g3' : ∀ q, (pm_C (d + 7) 27 [.ref 538, .int 44] (Wm I k o) q ↔ q = (.inl (some (.int (if nx T p = 44 then 1 else 0))), Wm J k o)) := g3
    refine ⟨J, W, some (.int 0), g1, g2, fun q => ?_⟩
    simp (decide := true) only [q44_135, q44_136, q44_139, q44_142, q44_143, q44_145, q44_148, q44_151, q44_152, q44_155, q44_156, q44_157, W_1, W_I, W_mk, W_tk, pm_rv, rf_0_0, rf_0_1, rf_0_2, rf_0_3, rf_0_4, rf_0_7, rf_0_8, rf_1_0, rf_1_2, rf_3_0, rf_3_1, rf_3_6, rf_3_7, rf_3_8, rf_9_0, rf_9_1, rf_10_0, rf_10_1, rf_10_6, rf_10_7, rf_10_8, rf_17_0, rf_17_1, rf_538_2, rf_538_6, rf_538_7, rf_538_9, rf_538_11, rf_538_12, rf_538_18, rf_538_19, rf_538_22, rf_538_23, rf_538_25, rf_538_27, rf_538_28, rf_538_30, rf_538_31, rf_538_32, rf_538_33, rf_538_34, rf_538_35, rf_538_36, ob_0, ob_1, ob_3, ob_9, ob_10, ob_17, ob_538, ar_2, ar_4, ar_5, ar_6, ar_7, ar_8, ar_11, ar_12, ar_13, ar_14, ar_15, ar_16, ar_116, ar_117, ar_539, ar_540, ar_541, ar_542, ar_543, ar_544, ar_545, ar_546, ar_547, ar_548, ar_549, ar_550, ar_551, ar_552, ar_553, ar_554, ar_555, ar_556, ar_557, ar_558, ex_eq, ex_ite, pm_bk_r, pm_bk_t, ol_nil, ol_one, true_and, and_true, false_and, and_false, reduceIte, Nat.reduceEqDiff, up_at, Nat.add_left_cancel_iff, h4, g3', n44]
    rw [q44_126]
    simp (decide := true) only [q44_127, ex_eq, ex_ite, pm_bk_r, pm_bk_t, ol_nil, ol_one, true_and, and_true, false_and, and_false, reduceIte, Nat.reduceEqDiff, up_at, Nat.add_left_cancel_iff]
  intro n
  induction n with
  | zero =>
    intro p C W I y2 hm h hl hp
    refine ⟨fun hx => (by cases hx), fun x hx => Or.inl ?_⟩
    injection hx with hx
    subst hx
    exact hno p C W I y2 (by rw [nx_ge (by omega)]; decide) h hp
  | succ n ih =>
    intro p C W I y2 hm h hl hp
    unfold e_effs
    by_cases n44 : nx T p = 44
    · rw [if_pos n44]
      have hlt := nx_lt (T := T) (p := p) (by omega)
      have h4 : I 538 4 = 0 := h.2.2.1
      obtain ⟨J, g1, g2, g3⟩ := c27 (d := d + 5) (k := k) (o := o) (c := 44) hT h (by omega) (by omega)
      rw [if_pos n44] at g1
      have g3' : ∀ q, (pm_C (d + 7) 27 [.ref 538, .int 44] (Wm I k o) q ↔ q = (.inl (some (.int (if nx T p = 44 then 1 else 0))), Wm J k o)) := g3
      have hX := c43 (d := d) (k := k) (o := o) hT (ch := ch) (p + 1) (K0 ++ C) W J g1 (by omega) (by omega)
      have hopen : ∀ q, (pm_R (d + 7) 44 135 [some (.ref 538), some (.int (bI ch)), y2] [] (Wm I k o) q ↔ ∃ r, pm_C (d + 7) 43 [.ref 538, .int (bI ch)] (Wm J k o) r ∧ pm_bk (fun v M' => pm_R (d + 7) 44 135 [some (.ref 538), some (.int (bI ch)), some (.int 1)] (v.toList ++ []) M' q) (fun k M' => q = (.inr k, M')) r) := by
        intro q
        simp (decide := true) only [q44_135, q44_136, q44_139, q44_142, q44_143, q44_145, q44_148, q44_151, q44_152, q44_155, q44_156, q44_157, W_1, W_I, W_mk, W_tk, pm_rv, rf_0_0, rf_0_1, rf_0_2, rf_0_3, rf_0_4, rf_0_7, rf_0_8, rf_1_0, rf_1_2, rf_3_0, rf_3_1, rf_3_6, rf_3_7, rf_3_8, rf_9_0, rf_9_1, rf_10_0, rf_10_1, rf_10_6, rf_10_7, rf_10_8, rf_17_0, rf_17_1, rf_538_2, rf_538_6, rf_538_7, rf_538_9, rf_538_11, rf_538_12, rf_538_18, rf_538_19, rf_538_22, rf_538_23, rf_538_25, rf_538_27, rf_538_28, rf_538_30, rf_538_31, rf_538_32, rf_538_33, rf_538_34, rf_538_35, rf_538_36, ob_0, ob_1, ob_3, ob_9, ob_10, ob_17, ob_538, ar_2, ar_4, ar_5, ar_6, ar_7, ar_8, ar_11, ar_12, ar_13, ar_14, ar_15, ar_16, ar_116, ar_117, ar_539, ar_540, ar_541, ar_542, ar_543, ar_544, ar_545, ar_546, ar_547, ar_548, ar_549, ar_550, ar_551, ar_552, ar_553, ar_554, ar_555, ar_556, ar_557, ar_558, ex_eq, ex_ite, pm_bk_r, pm_bk_t, ol_nil, ol_one, true_and, and_true, false_and, and_false, reduceIte, Nat.reduceEqDiff, up_at, Nat.add_left_cancel_iff, h4, g3', n44]
        rw [q44_126]
        simp (decide := true) only [q44_127, q44_130, q44_131, q44_132, W_1, W_I, W_mk, W_tk, pm_rv, rf_0_0, rf_0_1, rf_0_2, rf_0_3, rf_0_4, rf_0_7, rf_0_8, rf_1_0, rf_1_2, rf_3_0, rf_3_1, rf_3_6, rf_3_7, rf_3_8, rf_9_0, rf_9_1, rf_10_0, rf_10_1, rf_10_6, rf_10_7, rf_10_8, rf_17_0, rf_17_1, rf_538_2, rf_538_6, rf_538_7, rf_538_9, rf_538_11, rf_538_12, rf_538_18, rf_538_19, rf_538_22, rf_538_23, rf_538_25, rf_538_27, rf_538_28, rf_538_30, rf_538_31, rf_538_32, rf_538_33, rf_538_34, rf_538_35, rf_538_36, ob_0, ob_1, ob_3, ob_9, ob_10, ob_17, ob_538, ar_2, ar_4, ar_5, ar_6, ar_7, ar_8, ar_11, ar_12, ar_13, ar_14, ar_15, ar_16, ar_116, ar_117, ar_539, ar_540, ar_541, ar_542, ar_543, ar_544, ar_545, ar_546, ar_547, ar_548, ar_549, ar_550, ar_551, ar_552, ar_553, ar_554, ar_555, ar_556, ar_557, ar_558, ex_eq, ex_ite, pm_bk_r, pm_bk_t, ol_nil, ol_one, true_and, and_true, false_and, and_false, reduceIte, Nat.reduceEqDiff, up_at, Nat.add_left_cancel_iff]
      have hbad : ∀ J1, m_bad T 1 J1 → FN J J1 → (∀ q, (pm_C (d + 7) 43 [.ref 538, .int (bI ch)] (Wm J k o) q ↔ q = (.inl none, Wm J1 k o))) → ∃ J z2, m_bad T 1 J ∧ FN I J ∧ ∀ q, (pm_R (d + 7) 44 135 [some (.ref 538), some (.int (bI ch)), y2] [] (Wm I k o) q ↔ pm_R (d + 7) 44 160 [some (.ref 538), some (.int (bI ch)), z2] [] (Wm J k o) q) := by
        intro J1 b1 b2 b3
        refine ⟨J1, some (.int 0), b1, g2.trans b2, fun q => ?_⟩
        rw [hopen]
        simp only [b3, ex_eq, ex_ite, pm_bk_r, pm_bk_t, ol_nil, ol_one, true_and, and_true, false_and, and_false, reduceIte, Nat.reduceEqDiff, up_at, Nat.add_left_cancel_iff]
        exact c44_b b1 q
      cases er : e_eff T ch (p + 1) with
      | none =>
        refine ⟨fun _ => ?_, fun x hx => (by cases hx)⟩
        obtain ⟨J1, b1, b2, b3⟩ := hX.1 er
        exact hbad J1 b1 b2 b3
      | some y =>
        obtain ⟨p', C'⟩ := y
        have hg := e_eff_ok er
        have hg1 : p + 1 < p' := hg.1
        have hg2 : p' ≤ T.length := hg.2.1
        have hg3 : C'.length + (p + 1) ≤ p' := hg.2.2.1
        simp only []
        rcases hX.2 _ er with ⟨J1, W', a1, a2, a3⟩ | ⟨a1, J1, b1, b2, b3⟩
        · have a1 : MT T p' false (cK (K0 ++ C ++ C')) W' J1 := a1
          have a3' : ∀ q, (pm_C (d + 7) 43 [.ref 538, .int (bI ch)] (Wm J k o) q ↔ q = (.inl none, Wm J1 k o)) := a3
          rw [List.append_assoc] at a1
          have hr := ih p' (C ++ C') W' J1 (some (.int 1)) (by omega) a1 (by rw [← List.append_assoc, List.length_append]; omega) hg2
          have hopen2 : ∀ q, (pm_R (d + 7) 44 135 [some (.ref 538), some (.int (bI ch)), y2] [] (Wm I k o) q ↔ pm_R (d + 7) 44 135 [some (.ref 538), some (.int (bI ch)), some (.int 1)] [] (Wm J1 k o) q) := by
            intro q
            rw [hopen]
            simp only [a3', ex_eq, ex_ite, pm_bk_r, pm_bk_t, ol_nil, ol_one, true_and, and_true, false_and, and_false, reduceIte, Nat.reduceEqDiff, up_at, Nat.add_left_cancel_iff]
          refine ⟨fun hx => ?_, fun x hx => ?_⟩
          · obtain ⟨J2, z2, f1, f2, f3⟩ := hr.1 hx
            exact ⟨J2, z2, f1, (g2.trans a2).trans f2, fun q => (hopen2 q).trans (f3 q)⟩
          · rcases hr.2 x hx with ⟨J2, W2, z2, f1, f2, f3⟩ | ⟨f0, J2, z2, f1, f2, f3⟩
            · exact Or.inl ⟨J2, W2, z2, f1, (g2.trans a2).trans f2, fun q => (hopen2 q).trans (f3 q)⟩
            · exact Or.inr ⟨f0, J2, z2, f1, (g2.trans a2).trans f2, fun q => (hopen2 q).trans (f3 q)⟩
        · have a1 : m_stk 0 (nx T p') := a1
          rw [effs_stk (stk_ne a1).2.2.1]
          refine ⟨fun hx => (by cases hx), fun x hx => Or.inr ?_⟩
          injection hx with hx
          subst hx
          exact ⟨a1, hbad J1 b1 b2 b3⟩
    · rw [if_neg n44]
      refine ⟨fun hx => (by cases hx), fun x hx => Or.inl ?_⟩
      injection hx with hx
      subst hx
      exact hno p C W I y2 n44 h hp
/-- all effects -/
theorem c44_a (hT : TX T) {ch : Bool} {K0 : List (Nat × Nat)} {p : Nat} {W : List Nat} {I : Nat → Nat → Int32} {y2 : Option Value} (h : MT T p false (cK K0) W I) (hl : K0.length ≤ p) (hp : p ≤ T.length) :
    (e_all T ch p = none → ∃ J z2, m_bad T 1 J ∧ FN I J ∧ ∀ q, (pm_R (d + 7) 44 104 [some (.ref 538), some (.int (bI ch)), y2] [] (Wm I k o) q ↔ pm_R (d + 7) 44 160 [some (.ref 538), some (.int (bI ch)), z2] [] (Wm J k o) q)) ∧
    (∀ x, e_all T ch p = some x → (∃ J W' z2, MT T x.1 false (cK (K0 ++ x.2)) W' J ∧ FN I J ∧ ∀ q, (pm_R (d + 7) 44 104 [some (.ref 538), some (.int (bI ch)), y2] [] (Wm I k o) q ↔ pm_R (d + 7) 44 160 [some (.ref 538), some (.int (bI ch)), z2] [] (Wm J k o) q)) ∨ (m_stk 0 (nx T x.1) ∧ ∃ J z2, m_bad T 1 J ∧ FN I J ∧ ∀ q, (pm_R (d + 7) 44 104 [some (.ref 538), some (.int (bI ch)), y2] [] (Wm I k o) q ↔ pm_R (d + 7) 44 160 [some (.ref 538), some (.int (bI ch)), z2] [] (Wm J k o) q))) := by
  have h240 := hT.1
  have h126 := nx_126 hT p
  have h4 : I 538 4 = 0 := h.2.2.1
  have a26 : ∀ q, (pm_C (d + 7) 26 [.ref 538] (Wm I k o) q ↔ q = (.inl (some (.int (nI (nx T p)))), Wm I k o)) := fun q => c26 (d := d + 6) hT h.1 h.2.1 (by omega)
  have e59 : (nI (nx T p) = 59) ↔ nx T p = 59 := sm_inj (b := 59) (by omega) (by omega)
  unfold e_all
  by_cases n59 : nx T p = 59
  · rw [if_pos n59]
    refine ⟨fun hx => (by cases hx), fun x hx => Or.inl ?_⟩
    injection hx with hx
    subst hx
    refine ⟨I, W, some (.int 0), by rw [List.append_nil]; exact h, FN.refl, fun q => ?_⟩
    simp (decide := true) only [q44_104, q44_105, q44_108, q44_111, q44_112, q44_115, q44_117, q44_120, q44_121, q44_124, q44_125, W_1, W_I, W_mk, W_tk, pm_rv, rf_0_0, rf_0_1, rf_0_2, rf_0_3, rf_0_4, rf_0_7, rf_0_8, rf_1_0, rf_1_2, rf_3_0, rf_3_1, rf_3_6, rf_3_7, rf_3_8, rf_9_0, rf_9_1, rf_10_0, rf_10_1, rf_10_6, rf_10_7, rf_10_8, rf_17_0, rf_17_1, rf_538_2, rf_538_6, rf_538_7, rf_538_9, rf_538_11, rf_538_12, rf_538_18, rf_538_19, rf_538_22, rf_538_23, rf_538_25, rf_538_27, rf_538_28, rf_538_30, rf_538_31, rf_538_32, rf_538_33, rf_538_34, rf_538_35, rf_538_36, ob_0, ob_1, ob_3, ob_9, ob_10, ob_17, ob_538, ar_2, ar_4, ar_5, ar_6, ar_7, ar_8, ar_11, ar_12, ar_13, ar_14, ar_15, ar_16, ar_116, ar_117, ar_539, ar_540, ar_541, ar_542, ar_543, ar_544, ar_545, ar_546, ar_547, ar_548, ar_549, ar_550, ar_551, ar_552, ar_553, ar_554, ar_555, ar_556, ar_557, ar_558, ex_eq, ex_ite, pm_bk_r, pm_bk_t, ol_nil, ol_one, true_and, and_true, false_and, and_false, reduceIte, Nat.reduceEqDiff, up_at, Nat.add_left_cancel_iff, h4, a26, e59, n59]
    rw [q44_126]
    simp (decide := true) only [q44_127, ex_eq, ex_ite, pm_bk_r, pm_bk_t, ol_nil, ol_one, true_and, and_true, false_and, and_false, reduceIte, Nat.reduceEqDiff, up_at, Nat.add_left_cancel_iff]
  · rw [if_neg n59]
    have hX := c43 (d := d) (k := k) (o := o) hT (ch := ch) p K0 W I h hp hl
    have hopen : ∀ q, (pm_R (d + 7) 44 104 [some (.ref 538), some (.int (bI ch)), y2] [] (Wm I k o) q ↔ ∃ r, pm_C (d + 7) 43 [.ref 538, .int (bI ch)] (Wm I k o) r ∧ pm_bk (fun v M' => pm_R (d + 7) 44 135 [some (.ref 538), some (.int (bI ch)), some (.int 1)] (v.toList ++ []) M' q) (fun k M' => q = (.inr k, M')) r) := by
      intro q
      simp (decide := true) only [q44_104, q44_105, q44_108, q44_111, q44_112, q44_115, q44_117, q44_120, q44_121, q44_124, q44_125, W_1, W_I, W_mk, W_tk, pm_rv, rf_0_0, rf_0_1, rf_0_2, rf_0_3, rf_0_4, rf_0_7, rf_0_8, rf_1_0, rf_1_2, rf_3_0, rf_3_1, rf_3_6, rf_3_7, rf_3_8, rf_9_0, rf_9_1, rf_10_0, rf_10_1, rf_10_6, rf_10_7, rf_10_8, rf_17_0, rf_17_1, rf_538_2, rf_538_6, rf_538_7, rf_538_9, rf_538_11, rf_538_12, rf_538_18, rf_538_19, rf_538_22, rf_538_23, rf_538_25, rf_538_27, rf_538_28, rf_538_30, rf_538_31, rf_538_32, rf_538_33, rf_538_34, rf_538_35, rf_538_36, ob_0, ob_1, ob_3, ob_9, ob_10, ob_17, ob_538, ar_2, ar_4, ar_5, ar_6, ar_7, ar_8, ar_11, ar_12, ar_13, ar_14, ar_15, ar_16, ar_116, ar_117, ar_539, ar_540, ar_541, ar_542, ar_543, ar_544, ar_545, ar_546, ar_547, ar_548, ar_549, ar_550, ar_551, ar_552, ar_553, ar_554, ar_555, ar_556, ar_557, ar_558, ex_eq, ex_ite, pm_bk_r, pm_bk_t, ol_nil, ol_one, true_and, and_true, false_and, and_false, reduceIte, Nat.reduceEqDiff, up_at, Nat.add_left_cancel_iff, h4, a26, e59, n59]
      rw [q44_126]
      simp (decide := true) only [q44_127, q44_130, q44_131, q44_132, W_1, W_I, W_mk, W_tk, pm_rv, rf_0_0, rf_0_1, rf_0_2, rf_0_3, rf_0_4, rf_0_7, rf_0_8, rf_1_0, rf_1_2, rf_3_0, rf_3_1, rf_3_6, rf_3_7, rf_3_8, rf_9_0, rf_9_1, rf_10_0, rf_10_1, rf_10_6, rf_10_7, rf_10_8, rf_17_0, rf_17_1, rf_538_2, rf_538_6, rf_538_7, rf_538_9, rf_538_11, rf_538_12, rf_538_18, rf_538_19, rf_538_22, rf_538_23, rf_538_25, rf_538_27, rf_538_28, rf_538_30, rf_538_31, rf_538_32, rf_538_33, rf_538_34, rf_538_35, rf_538_36, ob_0, ob_1, ob_3, ob_9, ob_10, ob_17, ob_538, ar_2, ar_4, ar_5, ar_6, ar_7, ar_8, ar_11, ar_12, ar_13, ar_14, ar_15, ar_16, ar_116, ar_117, ar_539, ar_540, ar_541, ar_542, ar_543, ar_544, ar_545, ar_546, ar_547, ar_548, ar_549, ar_550, ar_551, ar_552, ar_553, ar_554, ar_555, ar_556, ar_557, ar_558, ex_eq, ex_ite, pm_bk_r, pm_bk_t, ol_nil, ol_one, true_and, and_true, false_and, and_false, reduceIte, Nat.reduceEqDiff, up_at, Nat.add_left_cancel_iff]
    have hbad : ∀ J1, m_bad T 1 J1 → FN I J1 → (∀ q, (pm_C (d + 7) 43 [.ref 538, .int (bI ch)] (Wm I k o) q ↔ q = (.inl none, Wm J1 k o))) → ∃ J z2, m_bad T 1 J ∧ FN I J ∧ ∀ q, (pm_R (d + 7) 44 104 [some (.ref 538), some (.int (bI ch)), y2] [] (Wm I k o) q ↔ pm_R (d + 7) 44 160 [some (.ref 538), some (.int (bI ch)), z2] [] (Wm J k o) q) := by
      intro J1 b1 b2 b3
      refine ⟨J1, some (.int 0), b1, b2, fun q => ?_⟩
      rw [hopen]
      simp only [b3, ex_eq, ex_ite, pm_bk_r, pm_bk_t, ol_nil, ol_one, true_and, and_true, false_and, and_false, reduceIte, Nat.reduceEqDiff, up_at, Nat.add_left_cancel_iff]
      exact c44_b b1 q
    cases er : e_eff T ch p with
    | none =>
      refine ⟨fun _ => ?_, fun x hx => (by cases hx)⟩
      obtain ⟨J1, b1, b2, b3⟩ := hX.1 er
      exact hbad J1 b1 b2 b3
    | some y =>
      obtain ⟨p', C'⟩ := y
      have hg := e_eff_ok er
      have hg2 : p' ≤ T.length := hg.2.1
      have hg3 : C'.length + p ≤ p' := hg.2.2.1
      simp only []
      rcases hX.2 _ er with ⟨J1, W', a1, a2, a3⟩ | ⟨a1, J1, b1, b2, b3⟩
      · have a3' : ∀ q, (pm_C (d + 7) 43 [.ref 538, .int (bI ch)] (Wm I k o) q ↔ q = (.inl none, Wm J1 k o)) := a3
        have hr := c44_l (d := d) (k := k) (o := o) (ch := ch) hT 240 p' C' W' J1 (some (.int 1)) (by omega) a1 (by rw [List.length_append]; omega) hg2
        have hopen2 : ∀ q, (pm_R (d + 7) 44 104 [some (.ref 538), some (.int (bI ch)), y2] [] (Wm I k o) q ↔ pm_R (d + 7) 44 135 [some (.ref 538), some (.int (bI ch)), some (.int 1)] [] (Wm J1 k o) q) := by
          intro q
          rw [hopen]
          simp only [a3', ex_eq, ex_ite, pm_bk_r, pm_bk_t, ol_nil, ol_one, true_and, and_true, false_and, and_false, reduceIte, Nat.reduceEqDiff, up_at, Nat.add_left_cancel_iff]
        refine ⟨fun hx => ?_, fun x hx => ?_⟩
        · obtain ⟨J2, z2, f1, f2, f3⟩ := hr.1 hx
          exact ⟨J2, z2, f1, a2.trans f2, fun q => (hopen2 q).trans (f3 q)⟩
        · rcases hr.2 x hx with ⟨J2, W2, z2, f1, f2, f3⟩ | ⟨f0, J2, z2, f1, f2, f3⟩
          · exact Or.inl ⟨J2, W2, z2, f1, a2.trans f2, fun q => (hopen2 q).trans (f3 q)⟩
          · exact Or.inr ⟨f0, J2, z2, f1, a2.trans f2, fun q => (hopen2 q).trans (f3 q)⟩
      · have a1 : m_stk 0 (nx T p') := a1
        rw [effs_stk (stk_ne a1).2.2.1]
        refine ⟨fun hx => (by cases hx), fun x hx => Or.inr ?_⟩
        injection hx with hx
        subst hx
        exact ⟨a1, hbad J1 b1 b2 b3⟩
/-- the end of a rule that read wrong -/
theorem c44_e (hT : TX T) {c : Nat} (hc : c < 50) {I : Nat → Nat → Int32} (h : m_bad T c I) {y1 y2 : Option Value} : ∃ J, m_bad T (c + 1) J ∧ FN I J ∧ ∀ q, (pm_R (d + 7) 44 160 [some (.ref 538), y1, y2] [] (Wm I k o) q ↔ q = (.inl none, Wm J k o)) := by
  obtain ⟨J1, a1, a2, a3⟩ := h.need (d := d + 4) (k := k) (o := o) hT (x := 59) (by omega) (by omega)
  obtain ⟨J2, b1, b2, b3⟩ := a1.e (d := d + 6) (k := k) (o := o) hT.1 (by omega) (x := 17) (y := 0)
  refine ⟨J2, b1, a2.trans b2, fun q => ?_⟩
  have a3' : ∀ q, (pm_C (d + 7) 28 [.ref 538, .int 59] (Wm I k o) q ↔ q = (.inl none, Wm J1 k o)) := a3
  simp (decide := true) only [q44_160, q44_161, q44_163, q44_166, q44_167, q44_169, q44_170, q44_173, W_1, W_I, W_mk, W_tk, pm_rv, rf_0_0, rf_0_1, rf_0_2, rf_0_3, rf_0_4, rf_0_7, rf_0_8, rf_1_0, rf_1_2, rf_3_0, rf_3_1, rf_3_6, rf_3_7, rf_3_8, rf_9_0, rf_9_1, rf_10_0, rf_10_1, rf_10_6, rf_10_7, rf_10_8, rf_17_0, rf_17_1, rf_538_2, rf_538_6, rf_538_7, rf_538_9, rf_538_11, rf_538_12, rf_538_18, rf_538_19, rf_538_22, rf_538_23, rf_538_25, rf_538_27, rf_538_28, rf_538_30, rf_538_31, rf_538_32, rf_538_33, rf_538_34, rf_538_35, rf_538_36, ob_0, ob_1, ob_3, ob_9, ob_10, ob_17, ob_538, ar_2, ar_4, ar_5, ar_6, ar_7, ar_8, ar_11, ar_12, ar_13, ar_14, ar_15, ar_16, ar_116, ar_117, ar_539, ar_540, ar_541, ar_542, ar_543, ar_544, ar_545, ar_546, ar_547, ar_548, ar_549, ar_550, ar_551, ar_552, ar_553, ar_554, ar_555, ar_556, ar_557, ar_558, ex_eq, ex_ite, pm_bk_r, pm_bk_t, ol_nil, ol_one, true_and, and_true, false_and, and_false, reduceIte, Nat.reduceEqDiff, up_at, Nat.add_left_cancel_iff, a3', b3]
/-- .. of one that is wrong ahead of its effects -/
theorem c44_f (hT : TX T) {c : Nat} (hc : c < 50) {I : Nat → Nat → Int32} (h : m_bad T c I) {y1 y2 : Option Value} : ∃ J, m_bad T (c + 1) J ∧ FN I J ∧ ∀ q, (pm_R (d + 7) 44 104 [some (.ref 538), y1, y2] [] (Wm I k o) q ↔ q = (.inl none, Wm J k o)) := by
  obtain ⟨J, a1, a2, a3⟩ := c44_e (d := d) (k := k) (o := o) (y1 := y1) (y2 := some (.int 0)) hT hc h
  obtain ⟨p, K, W, h1, -⟩ := h
  have h4 : I 538 4 = 1 := h1.2.2.1
  refine ⟨J, a1, a2, fun q => ?_⟩
  simp (decide := true) only [q44_104, q44_105, q44_108, q44_111, q44_112, q44_115, q44_117, q44_120, q44_121, q44_124, q44_125, W_1, W_I, W_mk, W_tk, pm_rv, rf_0_0, rf_0_1, rf_0_2, rf_0_3, rf_0_4, rf_0_7, rf_0_8, rf_1_0, rf_1_2, rf_3_0, rf_3_1, rf_3_6, rf_3_7, rf_3_8, rf_9_0, rf_9_1, rf_10_0, rf_10_1, rf_10_6, rf_10_7, rf_10_8, rf_17_0, rf_17_1, rf_538_2, rf_538_6, rf_538_7, rf_538_9, rf_538_11, rf_538_12, rf_538_18, rf_538_19, rf_538_22, rf_538_23, rf_538_25, rf_538_27, rf_538_28, rf_538_30, rf_538_31, rf_538_32, rf_538_33, rf_538_34, rf_538_35, rf_538_36, ob_0, ob_1, ob_3, ob_9, ob_10, ob_17, ob_538, ar_2, ar_4, ar_5, ar_6, ar_7, ar_8, ar_11, ar_12, ar_13, ar_14, ar_15, ar_16, ar_116, ar_117, ar_539, ar_540, ar_541, ar_542, ar_543, ar_544, ar_545, ar_546, ar_547, ar_548, ar_549, ar_550, ar_551, ar_552, ar_553, ar_554, ar_555, ar_556, ar_557, ar_558, ex_eq, ex_ite, pm_bk_r, pm_bk_t, ol_nil, ol_one, true_and, and_true, false_and, and_false, reduceIte, Nat.reduceEqDiff, up_at, Nat.add_left_cancel_iff, h4]
  rw [q44_126]
  simp (decide := true) only [q44_127, ex_eq, ex_ite, pm_bk_r, pm_bk_t, ol_nil, ol_one, true_and, and_true, false_and, and_false, reduceIte, Nat.reduceEqDiff, up_at, Nat.add_left_cancel_iff, a3]
theorem c44 (hT : TX T) {p : Nat} {K : List (Nat × Nat)} {W : List Nat} {R : List (Bool × Nat × Nat)} {I : Nat → Nat → Int32} (h : MT T p false (cK K) W I) (hR : RN R I) (hr : R.length ≤ 8) (hl : K.length ≤ p) (hM : nx T p = 77 ∨ nx T p = 80) :
    (R.length = 8 → ∃ J, m_bad T 3 J ∧ FO I J ∧ ∀ q, (pm_C (d + 8) 44 [.ref 538] (Wm I k o) q ↔ q = (.inl none, Wm J k o))) ∧
    (R.length < 8 → e_rule T p = none → ∃ J, m_bad T 3 J ∧ FO I J ∧ ∀ q, (pm_C (d + 8) 44 [.ref 538] (Wm I k o) q ↔ q = (.inl none, Wm J k o))) ∧
    (R.length < 8 → ∀ x, e_rule T p = some x → ∃ J W', MT T x.1 false (cK (K ++ x.2.1 ++ [(17, 0)] ++ x.2.2 ++ [(17, 0)])) W' J ∧ RN (R ++ [(e_isM T p, K.length, K.length + x.2.1.length + 1)]) J ∧ FO I J ∧ ∀ q, (pm_C (d + 8) 44 [.ref 538] (Wm I k o) q ↔ q = (.inl none, Wm J k o))) := by
  have h240 := hT.1
  have h126 := nx_126 hT p
  have hlt := nx_lt (T := T) (p := p) (by omega)
  have hcKx : ∀ (L : List (Nat × Nat)) (x y : Nat), cK L ++ [(nI x, nI y)] = cK (L ++ [(x, y)]) := fun L x y => by rw [cK_app]; rfl
  -- the letter eaten
  have hA : MT T (p + 1) false (cK K) W (uA I (p + 1)) := h.a
  obtain ⟨wr, hwr⟩ : ∃ wr, wr = decide (R.length = 8) := ⟨_, rfl⟩
  obtain ⟨I1, A1, F1, hopen⟩ : ∃ I1, MT T (p + 1) wr (cK K) W I1 ∧ FN I I1 ∧ ∀ q, (pm_C (d + 8) 44 [.ref 538] (Wm I k o) q ↔ pm_R (d + 7) 44 45 [some (.ref 538), some (.int (bI (e_isM T p))), none] [] (Wm I1 k o) q) := by
    have h4 : I 538 4 = 0 := h.2.2.1
    have e8 : (nI R.length = 8) ↔ R.length = 8 := sm_inj (b := 8) (by omega) (by omega)
    obtain ⟨J1, a1, a2, a3⟩ := c27 (d := d + 5) (k := k) (o := o) (c := 77) hT h (by omega) (by omega)
    have a3' : ∀ q, (pm_C (d + 7) 27 [.ref 538, .int 77] (Wm I k o) q ↔ q = (.inl (some (.int (if nx T p = 77 then 1 else 0))), Wm J1 k o)) := a3
    have h41 : J1 538 4 = 0 := a1.2.2.1
    have h10 : J1 538 10 = nI R.length := (hR.fn a2).1
    by_cases n77 : nx T p = 77
    · have em : e_isM T p = true := decide_eq_true n77
      rw [if_pos n77] at a1
      refine ⟨uW J1 wr, a1.w, a2.trans fW, fun q => ?_⟩
      rw [em, hwr, n44]
      by_cases c8 : R.length = 8
      · simp (decide := true) only [q44_0, q44_1, q44_3, q44_6, q44_7, q44_8, q44_9, q44_12, q44_15, q44_16, q44_19, q44_20, q44_22, q44_25, q44_28, q44_29, q44_32, q44_34, q44_37, q44_38, q44_41, q44_42, W_1, W_I, W_mk, W_tk, pm_rv, rf_0_0, rf_0_1, rf_0_2, rf_0_3, rf_0_4, rf_0_7, rf_0_8, rf_1_0, rf_1_2, rf_3_0, rf_3_1, rf_3_6, rf_3_7, rf_3_8, rf_9_0, rf_9_1, rf_10_0, rf_10_1, rf_10_6, rf_10_7, rf_10_8, rf_17_0, rf_17_1, rf_538_2, rf_538_6, rf_538_7, rf_538_9, rf_538_11, rf_538_12, rf_538_18, rf_538_19, rf_538_22, rf_538_23, rf_538_25, rf_538_27, rf_538_28, rf_538_30, rf_538_31, rf_538_32, rf_538_33, rf_538_34, rf_538_35, rf_538_36, ob_0, ob_1, ob_3, ob_9, ob_10, ob_17, ob_538, ar_2, ar_4, ar_5, ar_6, ar_7, ar_8, ar_11, ar_12, ar_13, ar_14, ar_15, ar_16, ar_116, ar_117, ar_539, ar_540, ar_541, ar_542, ar_543, ar_544, ar_545, ar_546, ar_547, ar_548, ar_549, ar_550, ar_551, ar_552, ar_553, ar_554, ar_555, ar_556, ar_557, ar_558, ex_eq, ex_ite, pm_bk_r, pm_bk_t, ol_nil, ol_one, true_and, and_true, false_and, and_false, reduceIte, Nat.reduceEqDiff, up_at, Nat.add_left_cancel_iff, a3', n77, h41, h10, e8, c8]
        exact Iff.rfl
      · simp (decide := true) only [q44_0, q44_1, q44_3, q44_6, q44_7, q44_8, q44_9, q44_12, q44_15, q44_16, q44_19, q44_20, q44_22, q44_25, q44_28, q44_29, q44_32, q44_34, q44_37, q44_38, q44_41, q44_42, W_1, W_I, W_mk, W_tk, pm_rv, rf_0_0, rf_0_1, rf_0_2, rf_0_3, rf_0_4, rf_0_7, rf_0_8, rf_1_0, rf_1_2, rf_3_0, rf_3_1, rf_3_6, rf_3_7, rf_3_8, rf_9_0, rf_9_1, rf_10_0, rf_10_1, rf_10_6, rf_10_7, rf_10_8, rf_17_0, rf_17_1, rf_538_2, rf_538_6, rf_538_7, rf_538_9, rf_538_11, rf_538_12, rf_538_18, rf_538_19, rf_538_22, rf_538_23, rf_538_25, rf_538_27, rf_538_28, rf_538_30, rf_538_31, rf_538_32, rf_538_33, rf_538_34, rf_538_35, rf_538_36, ob_0, ob_1, ob_3, ob_9, ob_10, ob_17, ob_538, ar_2, ar_4, ar_5, ar_6, ar_7, ar_8, ar_11, ar_12, ar_13, ar_14, ar_15, ar_16, ar_116, ar_117, ar_539, ar_540, ar_541, ar_542, ar_543, ar_544, ar_545, ar_546, ar_547, ar_548, ar_549, ar_550, ar_551, ar_552, ar_553, ar_554, ar_555, ar_556, ar_557, ar_558, ex_eq, ex_ite, pm_bk_r, pm_bk_t, ol_nil, ol_one, true_and, and_true, false_and, and_false, reduceIte, Nat.reduceEqDiff, up_at, Nat.add_left_cancel_iff, a3', n77, h41, h10, e8, c8]
        exact Iff.rfl
    · have em : e_isM T p = false := decide_eq_false n77
      have n80 : nx T p = 80 := hM.resolve_left n77
      rw [if_neg n77] at a1
      obtain ⟨J2, b1, b2, b3⟩ := c27 (d := d + 5) (k := k) (o := o) (c := 80) hT a1 (by omega) (by omega)
      rw [if_pos n80] at b1
      have b3' : ∀ q, (pm_C (d + 7) 27 [.ref 538, .int 80] (Wm J1 k o) q ↔ q = (.inl (some (.int (if nx T p = 80 then 1 else 0))), Wm J2 k o)) := b3
      have h102 : J2 538 10 = nI R.length := ((hR.fn a2).fn b2).1
      refine ⟨uW J2 wr, b1.w, (a2.trans b2).trans fW, fun q => ?_⟩
      rw [em, hwr, n44]
      by_cases c8 : R.length = 8
      · simp (decide := true) only [q44_0, q44_1, q44_3, q44_6, q44_7, q44_8, q44_9, q44_12, q44_15, q44_16, q44_19, q44_20, q44_22, q44_25, q44_28, q44_29, q44_32, q44_34, q44_37, q44_38, q44_41, q44_42, W_1, W_I, W_mk, W_tk, pm_rv, rf_0_0, rf_0_1, rf_0_2, rf_0_3, rf_0_4, rf_0_7, rf_0_8, rf_1_0, rf_1_2, rf_3_0, rf_3_1, rf_3_6, rf_3_7, rf_3_8, rf_9_0, rf_9_1, rf_10_0, rf_10_1, rf_10_6, rf_10_7, rf_10_8, rf_17_0, rf_17_1, rf_538_2, rf_538_6, rf_538_7, rf_538_9, rf_538_11, rf_538_12, rf_538_18, rf_538_19, rf_538_22, rf_538_23, rf_538_25, rf_538_27, rf_538_28, rf_538_30, rf_538_31, rf_538_32, rf_538_33, rf_538_34, rf_538_35, rf_538_36, ob_0, ob_1, ob_3, ob_9, ob_10, ob_17, ob_538, ar_2, ar_4, ar_5, ar_6, ar_7, ar_8, ar_11, ar_12, ar_13, ar_14, ar_15, ar_16, ar_116, ar_117, ar_539, ar_540, ar_541, ar_542, ar_543, ar_544, ar_545, ar_546, ar_547, ar_548, ar_549, ar_550, ar_551, ar_552, ar_553, ar_554, ar_555, ar_556, ar_557, ar_558, ex_eq, ex_ite, pm_bk_r, pm_bk_t, ol_nil, ol_one, true_and, and_true, false_and, and_false, reduceIte, Nat.reduceEqDiff, up_at, Nat.add_left_cancel_iff, a3', n77, n80, h41, b3', h102, e8, c8]
        exact Iff.rfl
      · simp (decide := true) only [q44_0, q44_1, q44_3, q44_6, q44_7, q44_8, q44_9, q44_12, q44_15, q44_16, q44_19, q44_20, q44_22, q44_25, q44_28, q44_29, q44_32, q44_34, q44_37, q44_38, q44_41, q44_42, W_1, W_I, W_mk, W_tk, pm_rv, rf_0_0, rf_0_1, rf_0_2, rf_0_3, rf_0_4, rf_0_7, rf_0_8, rf_1_0, rf_1_2, rf_3_0, rf_3_1, rf_3_6, rf_3_7, rf_3_8, rf_9_0, rf_9_1, rf_10_0, rf_10_1, rf_10_6, rf_10_7, rf_10_8, rf_17_0, rf_17_1, rf_538_2, rf_538_6, rf_538_7, rf_538_9, rf_538_11, rf_538_12, rf_538_18, rf_538_19, rf_538_22, rf_538_23, rf_538_25, rf_538_27, rf_538_28, rf_538_30, rf_538_31, rf_538_32, rf_538_33, rf_538_34, rf_538_35, rf_538_36, ob_0, ob_1, ob_3, ob_9, ob_10, ob_17, ob_538, ar_2, ar_4, ar_5, ar_6, ar_7, ar_8, ar_11, ar_12, ar_13, ar_14, ar_15, ar_16, ar_116, ar_117, ar_539, ar_540, ar_541, ar_542, ar_543, ar_544, ar_545, ar_546, ar_547, ar_548, ar_549, ar_550, ar_551, ar_552, ar_553, ar_554, ar_555, ar_556, ar_557, ar_558, ex_eq, ex_ite, pm_bk_r, pm_bk_t, ol_nil, ol_one, true_and, and_true, false_and, and_false, reduceIte, Nat.reduceEqDiff, up_at, Nat.add_left_cancel_iff, a3', n77, n80, h41, b3', h102, e8, c8]
        exact Iff.rfl
  have h14 : I1 538 4 = bI wr := A1.2.2.1
  refine ⟨fun c8 => ?_, ?_⟩
  · have ew : wr = true := by rw [hwr]; exact decide_eq_true c8
    rw [ew] at A1 h14
    have h14 : I1 538 4 = 1 := h14
    refine ⟨I1, ⟨p + 1, _, W, A1, by omega, by rw [cK_len]; omega⟩, F1.fo, fun q => ?_⟩
    rw [hopen]
    simp (decide := true) only [q44_45, q44_46, q44_49, q44_52, W_1, W_I, W_mk, W_tk, pm_rv, rf_0_0, rf_0_1, rf_0_2, rf_0_3, rf_0_4, rf_0_7, rf_0_8, rf_1_0, rf_1_2, rf_3_0, rf_3_1, rf_3_6, rf_3_7, rf_3_8, rf_9_0, rf_9_1, rf_10_0, rf_10_1, rf_10_6, rf_10_7, rf_10_8, rf_17_0, rf_17_1, rf_538_2, rf_538_6, rf_538_7, rf_538_9, rf_538_11, rf_538_12, rf_538_18, rf_538_19, rf_538_22, rf_538_23, rf_538_25, rf_538_27, rf_538_28, rf_538_30, rf_538_31, rf_538_32, rf_538_33, rf_538_34, rf_538_35, rf_538_36, ob_0, ob_1, ob_3, ob_9, ob_10, ob_17, ob_538, ar_2, ar_4, ar_5, ar_6, ar_7, ar_8, ar_11, ar_12, ar_13, ar_14, ar_15, ar_16, ar_116, ar_117, ar_539, ar_540, ar_541, ar_542, ar_543, ar_544, ar_545, ar_546, ar_547, ar_548, ar_549, ar_550, ar_551, ar_552, ar_553, ar_554, ar_555, ar_556, ar_557, ar_558, ex_eq, ex_ite, pm_bk_r, pm_bk_t, ol_nil, ol_one, true_and, and_true, false_and, and_false, reduceIte, Nat.reduceEqDiff, up_at, Nat.add_left_cancel_iff, h14]
  · -- a rule's place taken
    have main : R.length < 8 → (e_rule T p = none → ∃ J, m_bad T 3 J ∧ FO I J ∧ ∀ q, (pm_C (d + 8) 44 [.ref 538] (Wm I k o) q ↔ q = (.inl none, Wm J k o))) ∧ (∀ x, e_rule T p = some x → ∃ J W', MT T x.1 false (cK (K ++ x.2.1 ++ [(17, 0)] ++ x.2.2 ++ [(17, 0)])) W' J ∧ RN (R ++ [(e_isM T p, K.length, K.length + x.2.1.length + 1)]) J ∧ FO I J ∧ ∀ q, (pm_C (d + 8) 44 [.ref 538] (Wm I k o) q ↔ q = (.inl none, Wm J k o))) := by
      intro c8
      have ew : wr = false := by rw [hwr]; exact decide_eq_false (by omega)
      rw [ew] at A1 h14
      have h14 : I1 538 4 = 0 := h14
      have R1 := hR.fn F1
      obtain ⟨I2, hI2⟩ : ∃ I2, I2 = pm_up (pm_up (pm_up I1 543 R.length (bI (e_isM T p))) 544 R.length (nI K.length)) 538 10 (nI (R.length + 1)) := ⟨_, rfl⟩
      have s2 : ∀ x j, ¬ (x = 538 ∧ j = 10) → x ≠ 543 → x ≠ 544 → I2 x j = I1 x j := fun x j a b c => by rw [hI2, up_ne (by omega), up_ne (by omega), up_ne (by omega)]
      have F2 : FO I I2 := F1.fo.trans (fun x j a b => s2 x j (by omega) (by omega) (by omega))
      have A2 : MT T (p + 1) false (cK K) W I2 := by
        refine ⟨⟨?_, fun i hi => ?_⟩, ?_, ?_, A1.2.2.2.1.cg ?_ ?_ ?_, A1.2.2.2.2.cg ?_ ?_⟩
        · rw [s2 _ _ (by omega) (by omega) (by omega)]; exact A1.1.1
        · rw [s2 _ _ (by omega) (by omega) (by omega)]; exact A1.1.2 i hi
        · rw [s2 _ _ (by omega) (by omega) (by omega)]; exact A1.2.1
        · rw [s2 _ _ (by omega) (by omega) (by omega)]; exact A1.2.2.1
        · rw [s2 _ _ (by omega) (by omega) (by omega)]
        · funext j; rw [s2 _ _ (by omega) (by omega) (by omega)]
        · funext j; rw [s2 _ _ (by omega) (by omega) (by omega)]
        · rw [s2 _ _ (by omega) (by omega) (by omega)]
        · funext j; rw [s2 _ _ (by omega) (by omega) (by omega)]
      have R2 : ∀ z, RN (R ++ [(e_isM T p, K.length, z)]) I2 := by
        intro z
        rw [hI2]
        refine ⟨by rw [up_eq]; simp, fun r hr' => ?_⟩
        by_cases e : r = R.length
        · subst e
          rw [up_ne (by omega), up_ne (by omega), up_eq, up_ne (by omega), up_eq, List.getD_eq_getElem?_getD, List.getElem?_append_right (by omega)]
          simp
        · have hr2 : r < R.length := by simp at hr'; omega
          rw [up_ne (by omega), up_ne (by omega), up_ne (by omega), up_ne (by omega), up_ne (by omega), up_ne (by omega), List.getD_eq_getElem?_getD, List.getElem?_append_left hr2, ← List.getD_eq_getElem?_getD]
          exact R1.2 r hr2
      have hX := c42E (d := d + 1) (k := k) (o := o) hT (ch := e_isM T p) (p + 1) K W I2 A2 (by omega) (by omega)
      have hopen2 : ∀ q, (pm_C (d + 8) 44 [.ref 538] (Wm I k o) q ↔ ∃ r, pm_C (d + 7) 42 [.ref 538, .int (bI (e_isM T p))] (Wm I2 k o) r ∧ pm_bk (fun v M' => pm_R (d + 7) 44 91 [some (.ref 538), some (.int (bI (e_isM T p))), none] (v.toList ++ []) M' q) (fun k M' => q = (.inr k, M')) r) := by
        intro q
        have h10 : I1 538 10 = nI R.length := R1.1
        have h5 : I1 538 5 = nI K.length := by rw [A1.2.2.2.1.1, cK_len]
        have hfit : fits (pm_ty 2) (Value.int (bI (e_isM T p))) = true := by cases e_isM T p <;> decide
        have hnar : vp_nar (pm_ty 2) (bI (e_isM T p)) = bI (e_isM T p) := by cases e_isM T p <;> decide
        rw [hopen, hI2]
        simp (decide := true) only [q44_45, q44_46, q44_49, q44_52, q44_53, q44_54, q44_57, q44_58, q44_61, q44_62, q44_63, q44_64, q44_67, q44_68, q44_71, q44_72, q44_75, q44_76, q44_77, q44_78, q44_81, q44_82, q44_83, q44_86, q44_87, q44_88, W_1, W_I, W_mk, W_tk, pm_rv, rf_0_0, rf_0_1, rf_0_2, rf_0_3, rf_0_4, rf_0_7, rf_0_8, rf_1_0, rf_1_2, rf_3_0, rf_3_1, rf_3_6, rf_3_7, rf_3_8, rf_9_0, rf_9_1, rf_10_0, rf_10_1, rf_10_6, rf_10_7, rf_10_8, rf_17_0, rf_17_1, rf_538_2, rf_538_6, rf_538_7, rf_538_9, rf_538_11, rf_538_12, rf_538_18, rf_538_19, rf_538_22, rf_538_23, rf_538_25, rf_538_27, rf_538_28, rf_538_30, rf_538_31, rf_538_32, rf_538_33, rf_538_34, rf_538_35, rf_538_36, ob_0, ob_1, ob_3, ob_9, ob_10, ob_17, ob_538, ar_2, ar_4, ar_5, ar_6, ar_7, ar_8, ar_11, ar_12, ar_13, ar_14, ar_15, ar_16, ar_116, ar_117, ar_539, ar_540, ar_541, ar_542, ar_543, ar_544, ar_545, ar_546, ar_547, ar_548, ar_549, ar_550, ar_551, ar_552, ar_553, ar_554, ar_555, ar_556, ar_557, ar_558, ex_eq, ex_ite, pm_bk_r, pm_bk_t, ol_nil, ol_one, true_and, and_true, false_and, and_false, reduceIte, Nat.reduceEqDiff, up_at, Nat.add_left_cancel_iff, h14, h10, h5, hfit, hnar, sm_s, sm_in (show R.length < 2147483648 by omega), c8, sm_cl (show R.length < 2147483648 by omega)]
      have hbad0 : ∀ J, m_bad T 0 J → FN I2 J → (∀ q, (pm_C (d + 7) 42 [.ref 538, .int (bI (e_isM T p))] (Wm I2 k o) q ↔ q = (.inl none, Wm J k o))) → ∃ J, m_bad T 3 J ∧ FO I J ∧ ∀ q, (pm_C (d + 8) 44 [.ref 538] (Wm I k o) q ↔ q = (.inl none, Wm J k o)) := by
        intro J b1 b2 b3
        obtain ⟨J1, a1, a2, a3⟩ := b1.e (d := d + 6) (k := k) (o := o) h240 (by omega) (x := 17) (y := 0)
        obtain ⟨J2, e1, e2, e3⟩ := a1.need (d := d + 4) (k := k) (o := o) hT (x := 58) (by omega) (by omega)
        have e3' : ∀ q, (pm_C (d + 7) 28 [.ref 538, .int 58] (Wm J1 k o) q ↔ q = (.inl none, Wm J2 k o)) := e3
        obtain ⟨J3, f1, f2, f3⟩ := c44_f (d := d) (k := k) (o := o) (y1 := some (.int (bI (e_isM T p)))) (y2 := none) hT (by omega) e1
        refine ⟨J3, f1.mono (by omega), (((F2.trans b2.fo).trans a2.fo).trans e2.fo).trans f2.fo, fun q => ?_⟩
        rw [hopen2]
        simp (decide := true) only [b3, ex_eq, ex_ite, pm_bk_r, pm_bk_t, ol_nil, ol_one, true_and, and_true, false_and, and_false, reduceIte, Nat.reduceEqDiff, up_at, Nat.add_left_cancel_iff, q44_91, q44_92, q44_94, q44_95, q44_98, q44_99, q44_101, W_1, W_I, W_mk, W_tk, pm_rv, rf_0_0, rf_0_1, rf_0_2, rf_0_3, rf_0_4, rf_0_7, rf_0_8, rf_1_0, rf_1_2, rf_3_0, rf_3_1, rf_3_6, rf_3_7, rf_3_8, rf_9_0, rf_9_1, rf_10_0, rf_10_1, rf_10_6, rf_10_7, rf_10_8, rf_17_0, rf_17_1, rf_538_2, rf_538_6, rf_538_7, rf_538_9, rf_538_11, rf_538_12, rf_538_18, rf_538_19, rf_538_22, rf_538_23, rf_538_25, rf_538_27, rf_538_28, rf_538_30, rf_538_31, rf_538_32, rf_538_33, rf_538_34, rf_538_35, rf_538_36, ob_0, ob_1, ob_3, ob_9, ob_10, ob_17, ob_538, ar_2, ar_4, ar_5, ar_6, ar_7, ar_8, ar_11, ar_12, ar_13, ar_14, ar_15, ar_16, ar_116, ar_117, ar_539, ar_540, ar_541, ar_542, ar_543, ar_544, ar_545, ar_546, ar_547, ar_548, ar_549, ar_550, ar_551, ar_552, ar_553, ar_554, ar_555, ar_556, ar_557, ar_558, a3, e3', f3]
      unfold e_rule
      cases er : e_E T (e_isM T p) (p + 1) with
      | none =>
        refine ⟨fun _ => ?_, fun x hx => (by cases hx)⟩
        obtain ⟨J, b1, b2, b3⟩ := hX.1 er
        exact hbad0 J b1 b2 b3
      | some y =>
        obtain ⟨p1, C1⟩ := y
        have hg := e_expr_ok _ _ _ _ _ er
        have hg2 : p1 ≤ T.length := hg.2.1
        have hg3 : C1.length + (p + 1) ≤ p1 := hg.2.2.1
        simp only []
        rcases hX.2 _ er with ⟨J, W', g1, g2, g3⟩ | ⟨g1, J, b1, b2, b3⟩
        · have g1 : MT T p1 false (cK (K ++ C1)) W' J := g1
          have g3' : ∀ q, (pm_C (d + 7) 42 [.ref 538, .int (bI (e_isM T p))] (Wm I2 k o) q ↔ q = (.inl none, Wm J k o)) := g3
          have hlen : (K ++ C1).length = K.length + C1.length := List.length_append
          have hE := g1.e (x := nI 17) (y := nI 0)
          rw [hcKx, cK_len] at hE
          have h29 : ∀ q, (pm_C (d + 7) 29 [.ref 538, .int 17, .int 0] (Wm J k o) q ↔ q = (.inl none, Wm (uE J (K ++ C1).length (nI 17) (nI 0)) k o)) := fun q => by
            have := c29 (d := d + 6) (k := k) (o := o) (q := q) (x := nI 17) (y := nI 0) g1 (by rw [cK_len]; omega)
            rw [cK_len] at this
            exact this
          obtain ⟨J2, e1, e2, e3⟩ := c28 (d := d + 4) (k := k) (o := o) (c := 58) hT hE (by omega) (by omega)
          have e3' : ∀ q, (pm_C (d + 7) 28 [.ref 538, .int 58] (Wm (uE J (K ++ C1).length (nI 17) (nI 0)) k o) q ↔ q = (.inl none, Wm J2 k o)) := e3
          have hopen3 : ∀ q, (pm_C (d + 8) 44 [.ref 538] (Wm I k o) q ↔ pm_R (d + 7) 44 104 [some (.ref 538), some (.int (bI (e_isM T p))), none] [] (Wm J2 k o) q) := by
            intro q
            rw [hopen2]
            simp (decide := true) only [g3', ex_eq, ex_ite, pm_bk_r, pm_bk_t, ol_nil, ol_one, true_and, and_true, false_and, and_false, reduceIte, Nat.reduceEqDiff, up_at, Nat.add_left_cancel_iff, q44_91, q44_92, q44_94, q44_95, q44_98, q44_99, q44_101, W_1, W_I, W_mk, W_tk, pm_rv, rf_0_0, rf_0_1, rf_0_2, rf_0_3, rf_0_4, rf_0_7, rf_0_8, rf_1_0, rf_1_2, rf_3_0, rf_3_1, rf_3_6, rf_3_7, rf_3_8, rf_9_0, rf_9_1, rf_10_0, rf_10_1, rf_10_6, rf_10_7, rf_10_8, rf_17_0, rf_17_1, rf_538_2, rf_538_6, rf_538_7, rf_538_9, rf_538_11, rf_538_12, rf_538_18, rf_538_19, rf_538_22, rf_538_23, rf_538_25, rf_538_27, rf_538_28, rf_538_30, rf_538_31, rf_538_32, rf_538_33, rf_538_34, rf_538_35, rf_538_36, ob_0, ob_1, ob_3, ob_9, ob_10, ob_17, ob_538, ar_2, ar_4, ar_5, ar_6, ar_7, ar_8, ar_11, ar_12, ar_13, ar_14, ar_15, ar_16, ar_116, ar_117, ar_539, ar_540, ar_541, ar_542, ar_543, ar_544, ar_545, ar_546, ar_547, ar_548, ar_549, ar_550, ar_551, ar_552, ar_553, ar_554, ar_555, ar_556, ar_557, ar_558, h29, e3']
          have F3 : FN I2 J2 := (g2.trans fE).trans e2
          have hlen2 : (K ++ C1 ++ [(17, 0)]).length = K.length + C1.length + 1 := by simp; omega
          by_cases n58 : nx T p1 = 58
          · rw [if_pos n58]
            rw [if_pos n58, show (false || !decide (nx T p1 = 58)) = false by simp [n58]] at e1
            have hlt2 := nx_lt (T := T) (p := p1) (by omega)
            have ha := c44_a (d := d) (k := k) (o := o) (ch := e_isM T p) (y2 := none) hT e1 (by omega) (by omega)
            have hbad1 : ∀ J4 z2, m_bad T 1 J4 → FN J2 J4 → (∀ q, (pm_R (d + 7) 44 104 [some (.ref 538), some (.int (bI (e_isM T p))), none] [] (Wm J2 k o) q ↔ pm_R (d + 7) 44 160 [some (.ref 538), some (.int (bI (e_isM T p))), z2] [] (Wm J4 k o) q)) → ∃ J, m_bad T 3 J ∧ FO I J ∧ ∀ q, (pm_C (d + 8) 44 [.ref 538] (Wm I k o) q ↔ q = (.inl none, Wm J k o)) := by
              intro J4 z2 b1 b2 b3
              obtain ⟨J5, f1, f2, f3⟩ := c44_e (d := d) (k := k) (o := o) (y1 := some (.int (bI (e_isM T p)))) (y2 := z2) hT (by omega) b1
              exact ⟨J5, f1.mono (by omega), ((F2.trans F3.fo).trans b2.fo).trans f2.fo, fun q => ((hopen3 q).trans (b3 q)).trans (f3 q)⟩
            cases ea : e_all T (e_isM T p) (p1 + 1) with
            | none =>
              refine ⟨fun _ => ?_, fun x hx => (by cases hx)⟩
              obtain ⟨J4, z2, b1, b2, b3⟩ := ha.1 ea
              exact hbad1 J4 z2 b1 b2 b3
            | some y =>
              obtain ⟨p2, C2⟩ := y
              have hga := e_all_ok (by omega) ea
              have hga2 : p2 ≤ T.length := hga.2.1
              have hga3 : C2.length + (p1 + 1) ≤ p2 := hga.2.2.1
              simp only []
              rcases ha.2 _ ea with ⟨J4, W4, z2, f1, f2, f3⟩ | ⟨f0, J4, z2, b1, b2, b3⟩
              · have f1 : MT T p2 false (cK (K ++ C1 ++ [(17, 0)] ++ C2)) W4 J4 := f1
                obtain ⟨J5, l1, l2, l3⟩ := c28 (d := d + 4) (k := k) (o := o) (c := 59) hT f1 (by omega) (by omega)
                have l3' : ∀ q, (pm_C (d + 7) 28 [.ref 538, .int 59] (Wm J4 k o) q ↔ q = (.inl none, Wm J5 k o)) := l3
                have hlen5 : (K ++ C1 ++ [(17, 0)] ++ C2).length < 400 := by rw [List.length_append, hlen2]; omega
                have hE5 := l1.e (x := nI 17) (y := nI 0)
                rw [hcKx, cK_len] at hE5
                have h295 : ∀ q, (pm_C (d + 7) 29 [.ref 538, .int 17, .int 0] (Wm J5 k o) q ↔ q = (.inl none, Wm (uE J5 (K ++ C1 ++ [(17, 0)] ++ C2).length (nI 17) (nI 0)) k o)) := fun q => by
                  have := c29 (d := d + 6) (k := k) (o := o) (q := q) (x := nI 17) (y := nI 0) l1 (by rw [cK_len]; omega)
                  rw [cK_len] at this
                  exact this
                have hgo : ∀ q, (pm_C (d + 8) 44 [.ref 538] (Wm I k o) q ↔ q = (.inl none, Wm (uE J5 (K ++ C1 ++ [(17, 0)] ++ C2).length (nI 17) (nI 0)) k o)) := by
                  intro q
                  rw [hopen3, f3]
                  simp (decide := true) only [q44_160, q44_161, q44_163, q44_166, q44_167, q44_169, q44_170, q44_173, W_1, W_I, W_mk, W_tk, pm_rv, rf_0_0, rf_0_1, rf_0_2, rf_0_3, rf_0_4, rf_0_7, rf_0_8, rf_1_0, rf_1_2, rf_3_0, rf_3_1, rf_3_6, rf_3_7, rf_3_8, rf_9_0, rf_9_1, rf_10_0, rf_10_1, rf_10_6, rf_10_7, rf_10_8, rf_17_0, rf_17_1, rf_538_2, rf_538_6, rf_538_7, rf_538_9, rf_538_11, rf_538_12, rf_538_18, rf_538_19, rf_538_22, rf_538_23, rf_538_25, rf_538_27, rf_538_28, rf_538_30, rf_538_31, rf_538_32, rf_538_33, rf_538_34, rf_538_35, rf_538_36, ob_0, ob_1, ob_3, ob_9, ob_10, ob_17, ob_538, ar_2, ar_4, ar_5, ar_6, ar_7, ar_8, ar_11, ar_12, ar_13, ar_14, ar_15, ar_16, ar_116, ar_117, ar_539, ar_540, ar_541, ar_542, ar_543, ar_544, ar_545, ar_546, ar_547, ar_548, ar_549, ar_550, ar_551, ar_552, ar_553, ar_554, ar_555, ar_556, ar_557, ar_558, ex_eq, ex_ite, pm_bk_r, pm_bk_t, ol_nil, ol_one, true_and, and_true, false_and, and_false, reduceIte, Nat.reduceEqDiff, up_at, Nat.add_left_cancel_iff, l3', h295]
                have FF : FO I (uE J5 (K ++ C1 ++ [(17, 0)] ++ C2).length (nI 17) (nI 0)) := (((F2.trans F3.fo).trans f2.fo).trans l2.fo).trans fE.fo
                by_cases n59 : nx T p2 = 59
                · rw [if_pos n59]
                  rw [if_pos n59, show (false || !decide (nx T p2 = 59)) = false by simp [n59]] at hE5
                  refine ⟨fun hx => (by cases hx), fun x hx => ?_⟩
                  injection hx with hx
                  subst hx
                  exact ⟨_, W4, hE5, ((((R2 _).fn F3).fn f2).fn l2).fn fE, FF, hgo⟩
                · rw [if_neg n59]
                  rw [if_neg n59, show (false || !decide (nx T p2 = 59)) = true by simp [n59]] at hE5
                  refine ⟨fun _ => ⟨_, ⟨p2, _, W4, hE5, by omega, ?_⟩, FF, hgo⟩, fun x hx => (by cases hx)⟩
                  rw [cK_len, List.length_append, List.length_append, hlen2]
                  show K.length + C1.length + 1 + C2.length + 1 ≤ _
                  omega
              · have f0 : m_stk 0 (nx T p2) := f0
                rw [if_neg (stk_ne f0).2.1]
                exact ⟨fun _ => hbad1 J4 z2 b1 b2 b3, fun x hx => (by cases hx)⟩
          · rw [if_neg n58]
            rw [if_neg n58, show (false || !decide (nx T p1 = 58)) = true by simp [n58]] at e1
            refine ⟨fun _ => ?_, fun x hx => (by cases hx)⟩
            have hb : m_bad T 0 J2 := ⟨p1, _, W', e1, by omega, by rw [cK_len, hlen2]; omega⟩
            obtain ⟨J3, f1, f2, f3⟩ := c44_f (d := d) (k := k) (o := o) (y1 := some (.int (bI (e_isM T p)))) (y2 := none) hT (by omega) hb
            exact ⟨J3, f1.mono (by omega), (F2.trans F3.fo).trans f2.fo, fun q => (hopen3 q).trans (f3 q)⟩
        · have g1 : m_stk 0 (nx T p1) := g1
          rw [if_neg (stk_ne g1).1]
          exact ⟨fun _ => hbad0 J b1 b2 b3, fun x hx => (by cases hx)⟩
    exact ⟨fun c8 => (main c8).1, fun c8 => (main c8).2⟩
end MRU
