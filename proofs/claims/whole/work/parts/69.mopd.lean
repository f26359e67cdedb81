/-! THE REFERENCE: operand, expr -/
/-- b brackets wait for their ends -/
def WO (b : Nat) (W : List Nat) : Prop := W.count 99 = b ∧ ∀ w ∈ W, w = 99 ∨ 1 ≤ m_st w
theorem WO.rst {b l : Nat} (hl : 1 ≤ l) : ∀ {W : List Nat}, WO b W → WO b (m_rst l W) := by
  intro W
  induction W with
  | nil => intro h; exact h
  | cons w W ih =>
    intro h
    unfold m_rst
    split
    · rename_i e
      have hw : w ≠ 99 := fun q => by
        rw [q] at e
        have : m_st 99 = 0 := by decide
        omega
      refine ih ⟨?_, fun x hx => h.2 x (List.mem_cons_of_mem _ hx)⟩
      have := h.1
      rwa [List.count_cons_of_ne hw] at this
    · exact h
theorem WO.opn {b : Nat} (hb : 0 < b) : ∀ {W : List Nat}, WO b W → ∃ W2, m_rst 1 W = 99 :: W2 ∧ WO (b - 1) W2 := by
  intro W
  induction W with
  | nil =>
    intro h
    have : (0 : Nat) = b := h.1
    omega
  | cons w W ih =>
    intro h
    unfold m_rst
    split
    · rename_i e
      have hw : w ≠ 99 := fun q => by
        rw [q] at e
        have : m_st 99 = 0 := by decide
        omega
      refine ih ⟨?_, fun x hx => h.2 x (List.mem_cons_of_mem _ hx)⟩
      have := h.1
      rwa [List.count_cons_of_ne hw] at this
    · rename_i e
      have hw : w = 99 := (h.2 w List.mem_cons_self).resolve_right e
      subst hw
      refine ⟨W, rfl, ?_, fun x hx => h.2 x (List.mem_cons_of_mem _ hx)⟩
      have := h.1
      rw [List.count_cons_self] at this
      omega
theorem WO.all {W : List Nat} (h : WO 0 W) : m_rst 1 W = [] := by
  have key : ∀ W : List Nat, WO 0 W → m_rst 1 W = [] := by
    intro W
    induction W with
    | nil => intro _; rfl
    | cons w W ih =>
      intro h
      have hw : w ≠ 99 := fun q => by
        subst q
        have := h.1
        rw [List.count_cons_self] at this
        omega
      have hs : 1 ≤ m_st w := (h.2 w List.mem_cons_self).resolve_left hw
      have e : m_rst 1 (w :: W) = m_rst 1 W := if_pos hs
      rw [e]
      refine ih ⟨?_, fun x hx => h.2 x (List.mem_cons_of_mem _ hx)⟩
      have := h.1
      rwa [List.count_cons_of_ne hw] at this
  exact key W h
theorem WO.push {b w : Nat} {W : List Nat} (h : WO b W) (hw : w ≠ 99) (hs : 1 ≤ m_st w) : WO b (w :: W) := ⟨by rw [List.count_cons_of_ne hw]; exact h.1, fun x hx => by
  rcases List.mem_cons.mp hx with rfl | hx
  · exact Or.inr hs
  · exact h.2 x hx⟩
theorem WO.push99 {b : Nat} {W : List Nat} (h : WO b W) : WO (b + 1) (99 :: W) := ⟨by rw [List.count_cons_self, h.1], fun x hx => by
  rcases List.mem_cons.mp hx with rfl | hx
  · exact Or.inl rfl
  · exact h.2 x hx⟩
section MOP
variable {d k : Nat} {o : Int64} {T : List Nat}
theorem c41_p (hT : TX T) {Kc : List (Int32 × Int32)} {y1 : Option Value} {c2 : Int32} : ∀ m p t b W (I : Nat → Nat → Int32) (y5 : Option Value), T.length < m + p → MT T p false Kc W I → WO b W → t ≤ 4 → b ≤ 4 → p ≤ T.length → Kc.length + W.length ≤ p →
    (∀ x, m_pre T m p t b W = some x → ∃ J z4 z5, MT T x.1 false Kc x.2.2 J ∧ WO x.2.1 x.2.2 ∧ x.2.1 ≤ 4 ∧ x.1 ≤ T.length ∧ Kc.length + x.2.2.length ≤ x.1 ∧ FN I J ∧ ∀ q, (pm_R (d + 4) 41 5 [some (.ref 538), y1, some (.int c2), some (.int (nI b)), some (.int (nI t)), y5] [] (Wm I k o) q ↔ pm_R (d + 4) 41 138 [some (.ref 538), y1, some (.int c2), some (.int (nI x.2.1)), z4, z5] [] (Wm J k o) q)) ∧
    (m_pre T m p t b W = none → ∃ J p' W' v3 z4 z5, MT T p' true Kc W' J ∧ p' ≤ T.length ∧ Kc.length + W'.length ≤ p' ∧ FN I J ∧ ∀ q, (pm_R (d + 4) 41 5 [some (.ref 538), y1, some (.int c2), some (.int (nI b)), some (.int (nI t)), y5] [] (Wm I k o) q ↔ pm_R (d + 4) 41 138 [some (.ref 538), y1, some (.int c2), some (.int v3), z4, z5] [] (Wm J k o) q)) := by
  have h240 := hT.1
  intro m
  induction m with
  | zero =>
    intro p t b W I y5 hm h hW ht hb hp hl
    omega
  | succ m ih =>
    intro p t b W I y5 hm h hW ht hb hp hl
    have h126 := nx_126 hT p
    have a26 : ∀ q, (pm_C (d + 4) 26 [.ref 538] (Wm I k o) q ↔ q = (.inl (some (.int (nI (nx T p)))), Wm I k o)) := fun q => c26 (d := d + 3) hT h.1 h.2.1 (by omega)
    have e33 : (nI (nx T p) = 33) ↔ nx T p = 33 := sm_inj (b := 33) (by omega) (by omega)
    have e40 : (nI (nx T p) = 40) ↔ nx T p = 40 := sm_inj (b := 40) (by omega) (by omega)
    have h4 : I 538 4 = 0 := h.2.2.1
    have h8 : I 538 8 = nI W.length := h.2.2.2.2.1
    unfold m_pre
    -- a step that pushes w
    have hgo : ∀ (w t' b' : Nat) (wr : Bool), w ≤ 99 → p < T.length → MT T (p + 1) wr Kc (w :: W) (uA (uP (uW I wr) W.length w) (p + 1)) ∧ FN I (uA (uP (uW I wr) W.length w) (p + 1)) := fun w t' b' wr hw hlt => ⟨(h.w.push hw).a, (fW.trans fP).trans fA⟩
    by_cases n33 : nx T p = 33
    · rw [if_pos n33]
      have hlt := nx_lt (T := T) (p := p) (by omega)
      have hopen : ∀ q, (pm_R (d + 4) 41 5 [some (.ref 538), y1, some (.int c2), some (.int (nI b)), some (.int (nI t)), y5] [] (Wm I k o) q ↔ pm_R (d + 4) 41 5 [some (.ref 538), y1, some (.int c2), some (.int (nI b)), some (.int (nI (t + 1))), some (.int 1)] [] (Wm (uA (uP (uW I (decide (4 < t + 1))) W.length 12) (p + 1)) k o) q) := by
        intro q
        have et : (4 < nI (t + 1)) ↔ 4 < t + 1 := sm_lt (a := 4) (by omega) (by omega)
        have eb : (4 < nI b) ↔ False := iff_false_intro (by rw [show (4 : Int32) = nI 4 from rfl, sm_lt (by omega) (by omega)]; omega)
        rw [q41_5]
        by_cases t4 : 4 < t + 1
        · simp (decide := true) only [q41_6, q41_9, q41_12, q41_13, q41_16, q41_18, q41_21, q41_22, q41_25, q41_27, q41_30, q41_31, q41_34, q41_36, q41_39, q41_40, q41_43, q41_44, q41_46, q41_48, q41_51, q41_53, q41_54, q41_55, q41_58, q41_59, q41_61, q41_62, q41_64, q41_67, q41_68, q41_71, q41_72, q41_73, q41_74, q41_75, q41_77, q41_78, q41_81, q41_82, q41_83, q41_86, q41_87, q41_90, q41_91, q41_94, q41_95, q41_98, q41_99, q41_102, q41_104, q41_107, q41_109, q41_112, q41_114, q41_115, q41_116, q41_117, q41_120, q41_121, q41_122, q41_125, q41_126, q41_127, q41_130, q41_131, q41_132, q41_135, W_1, W_I, W_mk, W_tk, pm_rv, rf_0_0, rf_0_1, rf_0_2, rf_0_3, rf_0_4, rf_0_7, rf_0_8, rf_1_0, rf_1_2, rf_3_0, rf_3_1, rf_3_6, rf_3_7, rf_3_8, rf_9_0, rf_9_1, rf_10_0, rf_10_1, rf_10_6, rf_10_7, rf_10_8, rf_17_0, rf_17_1, rf_538_2, rf_538_6, rf_538_7, rf_538_9, rf_538_11, rf_538_12, rf_538_18, rf_538_19, rf_538_22, rf_538_23, rf_538_25, rf_538_27, rf_538_28, rf_538_30, rf_538_31, rf_538_32, rf_538_33, rf_538_34, rf_538_35, rf_538_36, ob_0, ob_1, ob_3, ob_9, ob_10, ob_17, ob_538, ar_2, ar_4, ar_5, ar_6, ar_7, ar_8, ar_11, ar_12, ar_13, ar_14, ar_15, ar_16, ar_116, ar_117, ar_539, ar_540, ar_541, ar_542, ar_543, ar_544, ar_545, ar_546, ar_547, ar_548, ar_549, ar_550, ar_551, ar_552, ar_553, ar_554, ar_555, ar_556, ar_557, ar_558, ex_eq, ex_ite, pm_bk_r, pm_bk_t, ol_nil, ol_one, true_and, and_true, false_and, and_false, reduceIte, Nat.reduceEqDiff, up_at, Nat.add_left_cancel_iff, h4, a26, e33, n33, sm_s, Int32.add_zero, et, t4, eb, h8, sm_in (show W.length < 2147483648 by omega), show W.length < 250 by omega, sm_cl (show W.length < 2147483648 by omega), h.2.1]
          exact Iff.rfl
        · simp (decide := true) only [q41_6, q41_9, q41_12, q41_13, q41_16, q41_18, q41_21, q41_22, q41_25, q41_27, q41_30, q41_31, q41_34, q41_36, q41_39, q41_40, q41_43, q41_44, q41_46, q41_48, q41_51, q41_53, q41_54, q41_55, q41_58, q41_59, q41_61, q41_62, q41_64, q41_67, q41_68, q41_71, q41_72, q41_73, q41_74, q41_75, q41_77, q41_78, q41_81, q41_82, q41_83, q41_86, q41_87, q41_90, q41_91, q41_94, q41_95, q41_98, q41_99, q41_102, q41_104, q41_107, q41_109, q41_112, q41_114, q41_115, q41_116, q41_117, q41_120, q41_121, q41_122, q41_125, q41_126, q41_127, q41_130, q41_131, q41_132, q41_135, W_1, W_I, W_mk, W_tk, pm_rv, rf_0_0, rf_0_1, rf_0_2, rf_0_3, rf_0_4, rf_0_7, rf_0_8, rf_1_0, rf_1_2, rf_3_0, rf_3_1, rf_3_6, rf_3_7, rf_3_8, rf_9_0, rf_9_1, rf_10_0, rf_10_1, rf_10_6, rf_10_7, rf_10_8, rf_17_0, rf_17_1, rf_538_2, rf_538_6, rf_538_7, rf_538_9, rf_538_11, rf_538_12, rf_538_18, rf_538_19, rf_538_22, rf_538_23, rf_538_25, rf_538_27, rf_538_28, rf_538_30, rf_538_31, rf_538_32, rf_538_33, rf_538_34, rf_538_35, rf_538_36, ob_0, ob_1, ob_3, ob_9, ob_10, ob_17, ob_538, ar_2, ar_4, ar_5, ar_6, ar_7, ar_8, ar_11, ar_12, ar_13, ar_14, ar_15, ar_16, ar_116, ar_117, ar_539, ar_540, ar_541, ar_542, ar_543, ar_544, ar_545, ar_546, ar_547, ar_548, ar_549, ar_550, ar_551, ar_552, ar_553, ar_554, ar_555, ar_556, ar_557, ar_558, ex_eq, ex_ite, pm_bk_r, pm_bk_t, ol_nil, ol_one, true_and, and_true, false_and, and_false, reduceIte, Nat.reduceEqDiff, up_at, Nat.add_left_cancel_iff, h4, a26, e33, n33, sm_s, Int32.add_zero, et, t4, eb, h8, sm_in (show W.length < 2147483648 by omega), show W.length < 250 by omega, sm_cl (show W.length < 2147483648 by omega), h.2.1]
          exact Iff.rfl
      by_cases t4 : t < 4
      · rw [if_pos t4]
        have ed : decide (4 < t + 1) = false := decide_eq_false (by omega)
        rw [ed] at hopen
        have hs := hgo 12 0 0 false (by omega) hlt
        have hr := ih (p + 1) (t + 1) b (12 :: W) _ (some (.int 1)) (by omega) hs.1 (hW.push (by decide) (by decide)) (by omega) hb (by omega) (by simp; omega)
        refine ⟨fun x hx => ?_, fun hx => ?_⟩
        · obtain ⟨J, z4, z5, a1, a2, a3, a4, a5, a6, a7⟩ := hr.1 x hx
          exact ⟨J, z4, z5, a1, a2, a3, a4, a5, hs.2.trans a6, fun q => (hopen q).trans (a7 q)⟩
        · obtain ⟨J, p', W', v3, z4, z5, a1, a2, a3, a4, a5⟩ := hr.2 hx
          exact ⟨J, p', W', v3, z4, z5, a1, a2, a3, hs.2.trans a4, fun q => (hopen q).trans (a5 q)⟩
      · rw [if_neg t4]
        refine ⟨fun x hx => (by cases hx), fun _ => ?_⟩
        have ed : decide (4 < t + 1) = true := decide_eq_true (by omega)
        rw [ed] at hopen
        have hs := hgo 12 0 0 true (by omega) hlt
        refine ⟨_, p + 1, _, nI b, some (.int (nI (t + 1))), some (.int 1), hs.1, by omega, by simp; omega, hs.2, fun q => ?_⟩
        have h4' : uA (uP (uW I true) W.length 12) (p + 1) 538 4 = 1 := hs.1.2.2.1
        rw [hopen, q41_5]
        simp (decide := true) only [q41_6, q41_9, W_1, W_I, W_mk, W_tk, pm_rv, rf_0_0, rf_0_1, rf_0_2, rf_0_3, rf_0_4, rf_0_7, rf_0_8, rf_1_0, rf_1_2, rf_3_0, rf_3_1, rf_3_6, rf_3_7, rf_3_8, rf_9_0, rf_9_1, rf_10_0, rf_10_1, rf_10_6, rf_10_7, rf_10_8, rf_17_0, rf_17_1, rf_538_2, rf_538_6, rf_538_7, rf_538_9, rf_538_11, rf_538_12, rf_538_18, rf_538_19, rf_538_22, rf_538_23, rf_538_25, rf_538_27, rf_538_28, rf_538_30, rf_538_31, rf_538_32, rf_538_33, rf_538_34, rf_538_35, rf_538_36, ob_0, ob_1, ob_3, ob_9, ob_10, ob_17, ob_538, ar_2, ar_4, ar_5, ar_6, ar_7, ar_8, ar_11, ar_12, ar_13, ar_14, ar_15, ar_16, ar_116, ar_117, ar_539, ar_540, ar_541, ar_542, ar_543, ar_544, ar_545, ar_546, ar_547, ar_548, ar_549, ar_550, ar_551, ar_552, ar_553, ar_554, ar_555, ar_556, ar_557, ar_558, ex_eq, ex_ite, pm_bk_r, pm_bk_t, ol_nil, ol_one, true_and, and_true, false_and, and_false, reduceIte, Nat.reduceEqDiff, up_at, Nat.add_left_cancel_iff, h4']
    · rw [if_neg n33]
      by_cases n40 : nx T p = 40
      · rw [if_pos n40]
        have hlt := nx_lt (T := T) (p := p) (by omega)
        have hopen : ∀ q, (pm_R (d + 4) 41 5 [some (.ref 538), y1, some (.int c2), some (.int (nI b)), some (.int (nI t)), y5] [] (Wm I k o) q ↔ pm_R (d + 4) 41 5 [some (.ref 538), y1, some (.int c2), some (.int (nI (b + 1))), some (.int 0), some (.int 0)] [] (Wm (uA (uP (uW I (decide (4 < b + 1))) W.length 99) (p + 1)) k o) q) := by
          intro q
          have et : (4 < nI (b + 1)) ↔ 4 < b + 1 := sm_lt (a := 4) (by omega) (by omega)
          rw [q41_5]
          by_cases b4 : 4 < b + 1
          · simp (decide := true) only [q41_6, q41_9, q41_12, q41_13, q41_16, q41_18, q41_21, q41_22, q41_25, q41_27, q41_30, q41_31, q41_34, q41_36, q41_39, q41_40, q41_43, q41_44, q41_46, q41_48, q41_51, q41_53, q41_54, q41_55, q41_58, q41_59, q41_61, q41_62, q41_64, q41_67, q41_68, q41_71, q41_72, q41_73, q41_74, q41_75, q41_77, q41_78, q41_81, q41_82, q41_83, q41_86, q41_87, q41_90, q41_91, q41_94, q41_95, q41_98, q41_99, q41_102, q41_104, q41_107, q41_109, q41_112, q41_114, q41_115, q41_116, q41_117, q41_120, q41_121, q41_122, q41_125, q41_126, q41_127, q41_130, q41_131, q41_132, q41_135, W_1, W_I, W_mk, W_tk, pm_rv, rf_0_0, rf_0_1, rf_0_2, rf_0_3, rf_0_4, rf_0_7, rf_0_8, rf_1_0, rf_1_2, rf_3_0, rf_3_1, rf_3_6, rf_3_7, rf_3_8, rf_9_0, rf_9_1, rf_10_0, rf_10_1, rf_10_6, rf_10_7, rf_10_8, rf_17_0, rf_17_1, rf_538_2, rf_538_6, rf_538_7, rf_538_9, rf_538_11, rf_538_12, rf_538_18, rf_538_19, rf_538_22, rf_538_23, rf_538_25, rf_538_27, rf_538_28, rf_538_30, rf_538_31, rf_538_32, rf_538_33, rf_538_34, rf_538_35, rf_538_36, ob_0, ob_1, ob_3, ob_9, ob_10, ob_17, ob_538, ar_2, ar_4, ar_5, ar_6, ar_7, ar_8, ar_11, ar_12, ar_13, ar_14, ar_15, ar_16, ar_116, ar_117, ar_539, ar_540, ar_541, ar_542, ar_543, ar_544, ar_545, ar_546, ar_547, ar_548, ar_549, ar_550, ar_551, ar_552, ar_553, ar_554, ar_555, ar_556, ar_557, ar_558, ex_eq, ex_ite, pm_bk_r, pm_bk_t, ol_nil, ol_one, true_and, and_true, false_and, and_false, reduceIte, Nat.reduceEqDiff, up_at, Nat.add_left_cancel_iff, h4, a26, e33, n33, e40, n40, sm_s, et, b4, h8, sm_in (show W.length < 2147483648 by omega), show W.length < 250 by omega, sm_cl (show W.length < 2147483648 by omega), h.2.1]
            exact Iff.rfl
          · simp (decide := true) only [q41_6, q41_9, q41_12, q41_13, q41_16, q41_18, q41_21, q41_22, q41_25, q41_27, q41_30, q41_31, q41_34, q41_36, q41_39, q41_40, q41_43, q41_44, q41_46, q41_48, q41_51, q41_53, q41_54, q41_55, q41_58, q41_59, q41_61, q41_62, q41_64, q41_67, q41_68, q41_71, q41_72, q41_73, q41_74, q41_75, q41_77, q41_78, q41_81, q41_82, q41_83, q41_86, q41_87, q41_90, q41_91, q41_94, q41_95, q41_98, q41_99, q41_102, q41_104, q41_107, q41_109, q41_112, q41_114, q41_115, q41_116, q41_117, q41_120, q41_121, q41_122, q41_125, q41_126, q41_127, q41_130, q41_131, q41_132, q41_135, W_1, W_I, W_mk, W_tk, pm_rv, rf_0_0, rf_0_1, rf_0_2, rf_0_3, rf_0_4, rf_0_7, rf_0_8, rf_1_0, rf_1_2, rf_3_0, rf_3_1, rf_3_6, rf_3_7, rf_3_8, rf_9_0, rf_9_1, rf_10_0, rf_10_1, rf_10_6, rf_10_7, rf_10_8, rf_17_0, rf_17_1, rf_538_2, rf_538_6, rf_538_7, rf_538_9, rf_538_11, rf_538_12, rf_538_18, rf_538_19, rf_538_22, rf_538_23, rf_538_25, rf_538_27, rf_538_28, rf_538_30, rf_538_31, rf_538_32, rf_538_33, rf_538_34, rf_538_35, rf_538_36, ob_0, ob_1, ob_3, ob_9, ob_10, ob_17, ob_538, ar_2, ar_4, ar_5, ar_6, ar_7, ar_8, ar_11, ar_12, ar_13, ar_14, ar_15, ar_16, ar_116, ar_117, ar_539, ar_540, ar_541, ar_542, ar_543, ar_544, ar_545, ar_546, ar_547, ar_548, ar_549, ar_550, ar_551, ar_552, ar_553, ar_554, ar_555, ar_556, ar_557, ar_558, ex_eq, ex_ite, pm_bk_r, pm_bk_t, ol_nil, ol_one, true_and, and_true, false_and, and_false, reduceIte, Nat.reduceEqDiff, up_at, Nat.add_left_cancel_iff, h4, a26, e33, n33, e40, n40, sm_s, et, b4, h8, sm_in (show W.length < 2147483648 by omega), show W.length < 250 by omega, sm_cl (show W.length < 2147483648 by omega), h.2.1]
            exact Iff.rfl
        by_cases b4 : b < 4
        · rw [if_pos b4]
          have ed : decide (4 < b + 1) = false := decide_eq_false (by omega)
          rw [ed] at hopen
          have hs := hgo 99 0 0 false (by omega) hlt
          have hr := ih (p + 1) 0 (b + 1) (99 :: W) _ (some (.int 0)) (by omega) hs.1 hW.push99 (by omega) (by omega) (by omega) (by simp; omega)
          rw [show nI 0 = (0 : Int32) from rfl] at hr
          refine ⟨fun x hx => ?_, fun hx => ?_⟩
          · obtain ⟨J, z4, z5, a1, a2, a3, a4, a5, a6, a7⟩ := hr.1 x hx
            exact ⟨J, z4, z5, a1, a2, a3, a4, a5, hs.2.trans a6, fun q => (hopen q).trans (a7 q)⟩
          · obtain ⟨J, p', W', v3, z4, z5, a1, a2, a3, a4, a5⟩ := hr.2 hx
            exact ⟨J, p', W', v3, z4, z5, a1, a2, a3, hs.2.trans a4, fun q => (hopen q).trans (a5 q)⟩
        · rw [if_neg b4]
          refine ⟨fun x hx => (by cases hx), fun _ => ?_⟩
          have ed : decide (4 < b + 1) = true := decide_eq_true (by omega)
          rw [ed] at hopen
          have hs := hgo 99 0 0 true (by omega) hlt
          refine ⟨_, p + 1, _, nI (b + 1), some (.int 0), some (.int 0), hs.1, by omega, by simp; omega, hs.2, fun q => ?_⟩
          have h4' : uA (uP (uW I true) W.length 99) (p + 1) 538 4 = 1 := hs.1.2.2.1
          rw [hopen, q41_5]
          simp (decide := true) only [q41_6, q41_9, W_1, W_I, W_mk, W_tk, pm_rv, rf_0_0, rf_0_1, rf_0_2, rf_0_3, rf_0_4, rf_0_7, rf_0_8, rf_1_0, rf_1_2, rf_3_0, rf_3_1, rf_3_6, rf_3_7, rf_3_8, rf_9_0, rf_9_1, rf_10_0, rf_10_1, rf_10_6, rf_10_7, rf_10_8, rf_17_0, rf_17_1, rf_538_2, rf_538_6, rf_538_7, rf_538_9, rf_538_11, rf_538_12, rf_538_18, rf_538_19, rf_538_22, rf_538_23, rf_538_25, rf_538_27, rf_538_28, rf_538_30, rf_538_31, rf_538_32, rf_538_33, rf_538_34, rf_538_35, rf_538_36, ob_0, ob_1, ob_3, ob_9, ob_10, ob_17, ob_538, ar_2, ar_4, ar_5, ar_6, ar_7, ar_8, ar_11, ar_12, ar_13, ar_14, ar_15, ar_16, ar_116, ar_117, ar_539, ar_540, ar_541, ar_542, ar_543, ar_544, ar_545, ar_546, ar_547, ar_548, ar_549, ar_550, ar_551, ar_552, ar_553, ar_554, ar_555, ar_556, ar_557, ar_558, ex_eq, ex_ite, pm_bk_r, pm_bk_t, ol_nil, ol_one, true_and, and_true, false_and, and_false, reduceIte, Nat.reduceEqDiff, up_at, Nat.add_left_cancel_iff, h4']
      · rw [if_neg n40]
        refine ⟨fun x hx => ?_, fun hx => (by cases hx)⟩
        injection hx with hx
        subst hx
        refine ⟨I, some (.int (nI t)), y5, h, hW, hb, hp, hl, FN.refl, fun q => ?_⟩
        rw [q41_5]
        simp (decide := true) only [q41_6, q41_9, q41_12, q41_13, q41_16, q41_18, q41_21, q41_22, q41_25, q41_27, W_1, W_I, W_mk, W_tk, pm_rv, rf_0_0, rf_0_1, rf_0_2, rf_0_3, rf_0_4, rf_0_7, rf_0_8, rf_1_0, rf_1_2, rf_3_0, rf_3_1, rf_3_6, rf_3_7, rf_3_8, rf_9_0, rf_9_1, rf_10_0, rf_10_1, rf_10_6, rf_10_7, rf_10_8, rf_17_0, rf_17_1, rf_538_2, rf_538_6, rf_538_7, rf_538_9, rf_538_11, rf_538_12, rf_538_18, rf_538_19, rf_538_22, rf_538_23, rf_538_25, rf_538_27, rf_538_28, rf_538_30, rf_538_31, rf_538_32, rf_538_33, rf_538_34, rf_538_35, rf_538_36, ob_0, ob_1, ob_3, ob_9, ob_10, ob_17, ob_538, ar_2, ar_4, ar_5, ar_6, ar_7, ar_8, ar_11, ar_12, ar_13, ar_14, ar_15, ar_16, ar_116, ar_117, ar_539, ar_540, ar_541, ar_542, ar_543, ar_544, ar_545, ar_546, ar_547, ar_548, ar_549, ar_550, ar_551, ar_552, ar_553, ar_554, ar_555, ar_556, ar_557, ar_558, ex_eq, ex_ite, pm_bk_r, pm_bk_t, ol_nil, ol_one, true_and, and_true, false_and, and_false, reduceIte, Nat.reduceEqDiff, up_at, Nat.add_left_cancel_iff, h4, a26, e33, n33, e40, n40]
/-- the closing brackets -/
theorem c41_c (hT : TX T) {y1 y4 y5 : Option Value} {c2 : Int32} : ∀ m p b W (K : List (Nat × Nat)) (I : Nat → Nat → Int32), T.length < m + p → MT T p false (cK K) W I → WO b W → b ≤ 4 → p ≤ T.length → K.length + W.length ≤ p →
    ∃ J, MT T (m_close T m p b W K).1 false (cK (m_close T m p b W K).2.2.2) (m_close T m p b W K).2.2.1 J ∧ WO (m_close T m p b W K).2.1 (m_close T m p b W K).2.2.1 ∧ (m_close T m p b W K).2.1 ≤ 4 ∧ (m_close T m p b W K).1 ≤ T.length ∧ (m_close T m p b W K).2.2.2.length + (m_close T m p b W K).2.2.1.length ≤ (m_close T m p b W K).1 ∧ FN I J ∧ ∀ q, (pm_R (d + 4) 41 187 [some (.ref 538), y1, some (.int c2), some (.int (nI b)), y4, y5] [] (Wm I k o) q ↔ q = (.inl (some (.int (nI (m_close T m p b W K).2.1))), Wm J k o)) := by
  have h240 := hT.1
  intro m
  induction m with
  | zero =>
    intro p b W K I hm h hW hb hp hl
    omega
  | succ m ih =>
    intro p b W K I hm h hW hb hp hl
    have h126 := nx_126 hT p
    have a26 : ∀ q, (pm_C (d + 4) 26 [.ref 538] (Wm I k o) q ↔ q = (.inl (some (.int (nI (nx T p)))), Wm I k o)) := fun q => c26 (d := d + 3) hT h.1 h.2.1 (by omega)
    have e41 : (nI (nx T p) = 41) ↔ nx T p = 41 := sm_inj (b := 41) (by omega) (by omega)
    have eb : (0 < nI b) ↔ 0 < b := sm_lt (a := 0) (by omega) (by omega)
    have h4 : I 538 4 = 0 := h.2.2.1
    unfold m_close
    by_cases hc : 0 < b ∧ nx T p = 41
    · rw [if_pos hc]
      have hlt := nx_lt (T := T) (p := p) (by omega)
      have hA : MT T (p + 1) false (cK K) W (uA I (p + 1)) := h.a
      obtain ⟨J1, a1, a2, a3⟩ := c40 (d := d + 2) (k := k) (o := o) (l := 1) (by omega) (by omega) W (cK K) _ hA (by rw [cK_len]; omega) (by omega)
      have lf := fl_len (l := 1) (W := W)
      obtain ⟨W2, w1, w2⟩ := hW.opn hc.1
      rw [w1] at a1 lf ⊢
      have hP := a1.pop
      have hl1 : (m_fl 1 W).length + (W2.length + 1) = W.length := lf
      obtain ⟨J2, b1, b2, b3⟩ := c40 (d := d + 2) (k := k) (o := o) (l := 6) (by omega) (by omega) W2 _ _ hP.1 (by rw [List.length_append, cK_len, cK_len]; omega) (by omega)
      have lf2 := fl_len (l := 6) (W := W2)
      have eK : cK K ++ cK (m_fl 1 W) ++ cK (m_fl 6 W2) = cK (K ++ m_fl 1 W ++ m_fl 6 W2) := by rw [cK_app, cK_app]
      rw [eK] at b1
      obtain ⟨J, g1, g2, g3, g4, g5, g6, g7⟩ := ih (p + 1) (b - 1) (m_rst 6 W2) (K ++ m_fl 1 W ++ m_fl 6 W2) J2 (by omega) b1 (w2.rst (by omega)) (by omega) (by omega) (by rw [List.length_append, List.length_append]; omega)
      refine ⟨J, g1, g2, g3, g4, g5, (((fA.trans a2).trans fNn).trans b2).trans g6, fun q => ?_⟩
      have em : nI b + (-1) = nI (b - 1) := by rw [show (-1 : Int32) = -(nI 1) from rfl, ← Int32.sub_eq_add_neg, sm_sub (by omega)]
      have h8 : J1 538 8 = nI (W2.length + 1) := a1.2.2.2.2.1
      have em2 : nI (W2.length + 1) - 1 = nI W2.length := by rw [show (1 : Int32) = nI 1 from rfl, sm_sub (by omega)]; rfl
      have a3' : ∀ q, (pm_C (d + 4) 40 [.ref 538, .int 1] (Wm (pm_up I 538 3 (nI (p + 1))) k o) q ↔ q = (.inl none, Wm J1 k o)) := a3
      have b3' : ∀ q, (pm_C (d + 4) 40 [.ref 538, .int 6] (Wm (pm_up J1 538 8 (nI W2.length)) k o) q ↔ q = (.inl none, Wm J2 k o)) := b3
      rw [q41_187]
      simp (decide := true) only [q41_188, q41_191, q41_194, q41_195, q41_198, q41_199, q41_202, q41_204, q41_207, q41_208, q41_209, q41_212, q41_213, q41_214, q41_217, q41_220, q41_221, q41_222, q41_225, q41_226, q41_227, q41_230, q41_231, q41_232, q41_235, q41_236, q41_238, q41_241, W_1, W_I, W_mk, W_tk, pm_rv, rf_0_0, rf_0_1, rf_0_2, rf_0_3, rf_0_4, rf_0_7, rf_0_8, rf_1_0, rf_1_2, rf_3_0, rf_3_1, rf_3_6, rf_3_7, rf_3_8, rf_9_0, rf_9_1, rf_10_0, rf_10_1, rf_10_6, rf_10_7, rf_10_8, rf_17_0, rf_17_1, rf_538_2, rf_538_6, rf_538_7, rf_538_9, rf_538_11, rf_538_12, rf_538_18, rf_538_19, rf_538_22, rf_538_23, rf_538_25, rf_538_27, rf_538_28, rf_538_30, rf_538_31, rf_538_32, rf_538_33, rf_538_34, rf_538_35, rf_538_36, ob_0, ob_1, ob_3, ob_9, ob_10, ob_17, ob_538, ar_2, ar_4, ar_5, ar_6, ar_7, ar_8, ar_11, ar_12, ar_13, ar_14, ar_15, ar_16, ar_116, ar_117, ar_539, ar_540, ar_541, ar_542, ar_543, ar_544, ar_545, ar_546, ar_547, ar_548, ar_549, ar_550, ar_551, ar_552, ar_553, ar_554, ar_555, ar_556, ar_557, ar_558, ex_eq, ex_ite, pm_bk_r, pm_bk_t, ol_nil, ol_one, true_and, and_true, false_and, and_false, reduceIte, Nat.reduceEqDiff, up_at, Nat.add_left_cancel_iff, h4, eb, hc.1, a26, e41, hc.2, h.2.1, sm_s, em, a3', h8, em2, b3', g7]
      exact Iff.rfl
    · rw [if_neg hc]
      refine ⟨I, h, hW, hb, hp, hl, FN.refl, fun q => ?_⟩
      rw [q41_187]
      by_cases hb0 : 0 < b
      · have n41 : ¬ nx T p = 41 := fun q => hc ⟨hb0, q⟩
        simp (decide := true) only [q41_188, q41_191, q41_194, q41_195, q41_198, q41_199, q41_202, q41_204, q41_244, q41_245, W_1, W_I, W_mk, W_tk, pm_rv, rf_0_0, rf_0_1, rf_0_2, rf_0_3, rf_0_4, rf_0_7, rf_0_8, rf_1_0, rf_1_2, rf_3_0, rf_3_1, rf_3_6, rf_3_7, rf_3_8, rf_9_0, rf_9_1, rf_10_0, rf_10_1, rf_10_6, rf_10_7, rf_10_8, rf_17_0, rf_17_1, rf_538_2, rf_538_6, rf_538_7, rf_538_9, rf_538_11, rf_538_12, rf_538_18, rf_538_19, rf_538_22, rf_538_23, rf_538_25, rf_538_27, rf_538_28, rf_538_30, rf_538_31, rf_538_32, rf_538_33, rf_538_34, rf_538_35, rf_538_36, ob_0, ob_1, ob_3, ob_9, ob_10, ob_17, ob_538, ar_2, ar_4, ar_5, ar_6, ar_7, ar_8, ar_11, ar_12, ar_13, ar_14, ar_15, ar_16, ar_116, ar_117, ar_539, ar_540, ar_541, ar_542, ar_543, ar_544, ar_545, ar_546, ar_547, ar_548, ar_549, ar_550, ar_551, ar_552, ar_553, ar_554, ar_555, ar_556, ar_557, ar_558, ex_eq, ex_ite, pm_bk_r, pm_bk_t, ol_nil, ol_one, true_and, and_true, false_and, and_false, reduceIte, Nat.reduceEqDiff, up_at, Nat.add_left_cancel_iff, h4, eb, hb0, a26, e41, n41]
      · simp (decide := true) only [q41_188, q41_191, q41_194, q41_195, q41_244, q41_245, W_1, W_I, W_mk, W_tk, pm_rv, rf_0_0, rf_0_1, rf_0_2, rf_0_3, rf_0_4, rf_0_7, rf_0_8, rf_1_0, rf_1_2, rf_3_0, rf_3_1, rf_3_6, rf_3_7, rf_3_8, rf_9_0, rf_9_1, rf_10_0, rf_10_1, rf_10_6, rf_10_7, rf_10_8, rf_17_0, rf_17_1, rf_538_2, rf_538_6, rf_538_7, rf_538_9, rf_538_11, rf_538_12, rf_538_18, rf_538_19, rf_538_22, rf_538_23, rf_538_25, rf_538_27, rf_538_28, rf_538_30, rf_538_31, rf_538_32, rf_538_33, rf_538_34, rf_538_35, rf_538_36, ob_0, ob_1, ob_3, ob_9, ob_10, ob_17, ob_538, ar_2, ar_4, ar_5, ar_6, ar_7, ar_8, ar_11, ar_12, ar_13, ar_14, ar_15, ar_16, ar_116, ar_117, ar_539, ar_540, ar_541, ar_542, ar_543, ar_544, ar_545, ar_546, ar_547, ar_548, ar_549, ar_550, ar_551, ar_552, ar_553, ar_554, ar_555, ar_556, ar_557, ar_558, ex_eq, ex_ite, pm_bk_r, pm_bk_t, ol_nil, ol_one, true_and, and_true, false_and, and_false, reduceIte, Nat.reduceEqDiff, up_at, Nat.add_left_cancel_iff, h4, eb, hb0]
/-- an operand that went wrong -/
theorem c41_w {p : Nat} {K : List (Int32 × Int32)} {W : List Nat} {I : Nat → Nat → Int32} (h : MT T p true K W I) (hl : K.length + W.length ≤ p) (hp : p ≤ 240) {y1 y2 y4 y5 : Option Value} {v3 : Int32} : ∃ J K' W', MT T p true K' W' J ∧ K'.length + W'.length ≤ p ∧ FN I J ∧ ∀ q, (pm_R (d + 4) 41 181 [some (.ref 538), y1, y2, some (.int v3), y4, y5] [] (Wm I k o) q ↔ q = (.inl (some (.int v3)), Wm J k o)) := by
  obtain ⟨J, a1, a2, a3⟩ := c40 (d := d + 2) (k := k) (o := o) (l := 6) (by omega) (by omega) W K _ h (by omega) (by omega)
  have lf := fl_len (l := 6) (W := W)
  refine ⟨J, _, _, a1, by rw [List.length_append, cK_len]; omega, a2, fun q => ?_⟩
  have a3' : ∀ q, (pm_C (d + 4) 40 [.ref 538, .int 6] (Wm I k o) q ↔ q = (.inl none, Wm J k o)) := a3
  have h4 : J 538 4 = 1 := a1.2.2.1
  simp (decide := true) only [q41_181, q41_182, q41_184, W_1, W_I, W_mk, W_tk, pm_rv, rf_0_0, rf_0_1, rf_0_2, rf_0_3, rf_0_4, rf_0_7, rf_0_8, rf_1_0, rf_1_2, rf_3_0, rf_3_1, rf_3_6, rf_3_7, rf_3_8, rf_9_0, rf_9_1, rf_10_0, rf_10_1, rf_10_6, rf_10_7, rf_10_8, rf_17_0, rf_17_1, rf_538_2, rf_538_6, rf_538_7, rf_538_9, rf_538_11, rf_538_12, rf_538_18, rf_538_19, rf_538_22, rf_538_23, rf_538_25, rf_538_27, rf_538_28, rf_538_30, rf_538_31, rf_538_32, rf_538_33, rf_538_34, rf_538_35, rf_538_36, ob_0, ob_1, ob_3, ob_9, ob_10, ob_17, ob_538, ar_2, ar_4, ar_5, ar_6, ar_7, ar_8, ar_11, ar_12, ar_13, ar_14, ar_15, ar_16, ar_116, ar_117, ar_539, ar_540, ar_541, ar_542, ar_543, ar_544, ar_545, ar_546, ar_547, ar_548, ar_549, ar_550, ar_551, ar_552, ar_553, ar_554, ar_555, ar_556, ar_557, ar_558, ex_eq, ex_ite, pm_bk_r, pm_bk_t, ol_nil, ol_one, true_and, and_true, false_and, and_false, reduceIte, Nat.reduceEqDiff, up_at, Nat.add_left_cancel_iff, a3']
  rw [q41_187]
  simp (decide := true) only [q41_188, q41_191, q41_244, q41_245, W_1, W_I, W_mk, W_tk, pm_rv, rf_0_0, rf_0_1, rf_0_2, rf_0_3, rf_0_4, rf_0_7, rf_0_8, rf_1_0, rf_1_2, rf_3_0, rf_3_1, rf_3_6, rf_3_7, rf_3_8, rf_9_0, rf_9_1, rf_10_0, rf_10_1, rf_10_6, rf_10_7, rf_10_8, rf_17_0, rf_17_1, rf_538_2, rf_538_6, rf_538_7, rf_538_9, rf_538_11, rf_538_12, rf_538_18, rf_538_19, rf_538_22, rf_538_23, rf_538_25, rf_538_27, rf_538_28, rf_538_30, rf_538_31, rf_538_32, rf_538_33, rf_538_34, rf_538_35, rf_538_36, ob_0, ob_1, ob_3, ob_9, ob_10, ob_17, ob_538, ar_2, ar_4, ar_5, ar_6, ar_7, ar_8, ar_11, ar_12, ar_13, ar_14, ar_15, ar_16, ar_116, ar_117, ar_539, ar_540, ar_541, ar_542, ar_543, ar_544, ar_545, ar_546, ar_547, ar_548, ar_549, ar_550, ar_551, ar_552, ar_553, ar_554, ar_555, ar_556, ar_557, ar_558, ex_eq, ex_ite, pm_bk_r, pm_bk_t, ol_nil, ol_one, true_and, and_true, false_and, and_false, reduceIte, Nat.reduceEqDiff, up_at, Nat.add_left_cancel_iff, h4]
theorem c41 (hT : TX T) {ch : Bool} {p b : Nat} {K : List (Nat × Nat)} {W : List Nat} {I : Nat → Nat → Int32} (hb : b ≤ 4) (h : MT T p false (cK K) W I) (hW : WO b W) (hp : p ≤ T.length) (hl : K.length + W.length ≤ p) :
    (∀ x, m_opd T ch p b W K = some x → ∃ J, MT T x.1 false (cK x.2.2.2) x.2.2.1 J ∧ WO x.2.1 x.2.2.1 ∧ x.2.1 ≤ 4 ∧ x.1 ≤ T.length ∧ x.2.2.2.length + x.2.2.1.length ≤ x.1 ∧ FN I J ∧ ∀ q, (pm_C (d + 5) 41 [.ref 538, .int (nI b), .int (bI ch)] (Wm I k o) q ↔ q = (.inl (some (.int (nI x.2.1))), Wm J k o))) ∧
    (m_opd T ch p b W K = none → ∃ J p' K' W' v, MT T p' true K' W' J ∧ p' ≤ T.length ∧ K'.length + W'.length ≤ p' ∧ FN I J ∧ ∀ q, (pm_C (d + 5) 41 [.ref 538, .int (nI b), .int (bI ch)] (Wm I k o) q ↔ q = (.inl (some (.int v)), Wm J k o))) := by
  have h240 := hT.1
  have hr := c41_p (d := d) (k := k) (o := o) (y1 := some (.int (nI b))) (c2 := bI ch) hT 250 p 0 b W I none (by omega) h hW (by omega) hb hp (by rw [cK_len]; exact hl)
  rw [show nI 0 = (0 : Int32) from rfl] at hr
  have hopen : ∀ q, (pm_C (d + 5) 41 [.ref 538, .int (nI b), .int (bI ch)] (Wm I k o) q ↔ pm_R (d + 4) 41 5 [some (.ref 538), some (.int (nI b)), some (.int (bI ch)), some (.int (nI b)), some (.int 0), none] [] (Wm I k o) q) := by
    intro q
    rw [n41]
    simp only [q41_0, q41_1, q41_2, q41_3]
  unfold m_opd
  cases e1 : m_pre T 250 p 0 b W with
  | none =>
    refine ⟨fun x hx => (by cases hx), fun _ => ?_⟩
    obtain ⟨J, p', W', v3, z4, z5, a1, a2, a3, a4, a5⟩ := hr.2 e1
    have h4 : J 538 4 = 1 := a1.2.2.1
    have hw := a1.w (b := true)
    obtain ⟨J2, K', W2, b1, b2, b3, b4⟩ := c41_w (d := d) (k := k) (o := o) (y1 := some (.int (nI b))) (y2 := some (.int (bI ch))) (y4 := z4) (y5 := some (.int 1)) (v3 := v3) hw a3 (by omega)
    refine ⟨J2, p', K', W2, v3, b1, a2, b2, (a4.trans fW).trans b3, fun q => ?_⟩
    rw [hopen, a5]
    unfold uW bI at b4
    simp (decide := true) only [reduceIte] at b4
    simp (decide := true) only [q41_138, q41_139, q41_142, q41_145, q41_146, q41_147, q41_150, q41_153, q41_154, q41_157, q41_158, q41_160, q41_161, q41_162, q41_165, q41_168, q41_170, q41_173, q41_174, q41_177, q41_178, W_1, W_I, W_mk, W_tk, pm_rv, rf_0_0, rf_0_1, rf_0_2, rf_0_3, rf_0_4, rf_0_7, rf_0_8, rf_1_0, rf_1_2, rf_3_0, rf_3_1, rf_3_6, rf_3_7, rf_3_8, rf_9_0, rf_9_1, rf_10_0, rf_10_1, rf_10_6, rf_10_7, rf_10_8, rf_17_0, rf_17_1, rf_538_2, rf_538_6, rf_538_7, rf_538_9, rf_538_11, rf_538_12, rf_538_18, rf_538_19, rf_538_22, rf_538_23, rf_538_25, rf_538_27, rf_538_28, rf_538_30, rf_538_31, rf_538_32, rf_538_33, rf_538_34, rf_538_35, rf_538_36, ob_0, ob_1, ob_3, ob_9, ob_10, ob_17, ob_538, ar_2, ar_4, ar_5, ar_6, ar_7, ar_8, ar_11, ar_12, ar_13, ar_14, ar_15, ar_16, ar_116, ar_117, ar_539, ar_540, ar_541, ar_542, ar_543, ar_544, ar_545, ar_546, ar_547, ar_548, ar_549, ar_550, ar_551, ar_552, ar_553, ar_554, ar_555, ar_556, ar_557, ar_558, ex_eq, ex_ite, pm_bk_r, pm_bk_t, ol_nil, ol_one, true_and, and_true, false_and, and_false, reduceIte, Nat.reduceEqDiff, up_at, Nat.add_left_cancel_iff, h4, b4, bI]
  | some y =>
    obtain ⟨p1, b1, W1⟩ := y
    obtain ⟨J, z4, z5, a1, a2, a3, a4, a5, a6, a7⟩ := hr.1 _ e1
    have a1 : MT T p1 false (cK K) W1 J := a1
    have a2 : WO b1 W1 := a2
    have a3 : b1 ≤ 4 := a3
    have a4 : p1 ≤ T.length := a4
    have a5 : (cK K).length + W1.length ≤ p1 := a5
    rw [cK_len] at a5
    have h4 : J 538 4 = 0 := a1.2.2.1
    have h36 := c36 (d := d) (k := k) (o := o) (ch := ch) hT a1 a4 (by rw [cK_len]; omega)
    simp only []
    cases e2 : m_plain T ch p1 with
    | none =>
      refine ⟨fun x hx => (by cases hx), fun _ => ?_⟩
      obtain ⟨J1, p', v, K', g1, g2, g3, g4, g5, g6, g7⟩ := h36.2 e2
      rw [cK_len] at g4
      have hw := g1.w (b := true)
      obtain ⟨J2, K2, W2, f1, f2, f3, f4⟩ := c41_w (d := d) (k := k) (o := o) (y1 := some (.int (nI b))) (y2 := some (.int (bI ch))) (y4 := z4) (y5 := some (.int v)) (v3 := nI b1) hw (by omega) (by omega)
      refine ⟨J2, p', K2, W2, nI b1, f1, g2, f2, ((a6.trans g6).trans fW).trans f3, fun q => ?_⟩
      rw [hopen, a7]
      have h44 := g1.2.2.1
      unfold uW bI at f4
      rcases g5 with rfl | rfl
      · simp (decide := true) only [reduceIte, bI] at f4 h44 g7 ⊢
        simp (decide := true) only [q41_138, q41_139, q41_142, q41_145, q41_146, q41_147, q41_150, q41_153, q41_154, q41_157, q41_158, q41_160, q41_161, q41_162, q41_165, q41_168, q41_170, q41_173, q41_174, q41_177, q41_178, W_1, W_I, W_mk, W_tk, pm_rv, rf_0_0, rf_0_1, rf_0_2, rf_0_3, rf_0_4, rf_0_7, rf_0_8, rf_1_0, rf_1_2, rf_3_0, rf_3_1, rf_3_6, rf_3_7, rf_3_8, rf_9_0, rf_9_1, rf_10_0, rf_10_1, rf_10_6, rf_10_7, rf_10_8, rf_17_0, rf_17_1, rf_538_2, rf_538_6, rf_538_7, rf_538_9, rf_538_11, rf_538_12, rf_538_18, rf_538_19, rf_538_22, rf_538_23, rf_538_25, rf_538_27, rf_538_28, rf_538_30, rf_538_31, rf_538_32, rf_538_33, rf_538_34, rf_538_35, rf_538_36, ob_0, ob_1, ob_3, ob_9, ob_10, ob_17, ob_538, ar_2, ar_4, ar_5, ar_6, ar_7, ar_8, ar_11, ar_12, ar_13, ar_14, ar_15, ar_16, ar_116, ar_117, ar_539, ar_540, ar_541, ar_542, ar_543, ar_544, ar_545, ar_546, ar_547, ar_548, ar_549, ar_550, ar_551, ar_552, ar_553, ar_554, ar_555, ar_556, ar_557, ar_558, ex_eq, ex_ite, pm_bk_r, pm_bk_t, ol_nil, ol_one, true_and, and_true, false_and, and_false, reduceIte, Nat.reduceEqDiff, up_at, Nat.add_left_cancel_iff, h4, g7, h44, f4]
      · simp (decide := true) only [reduceIte, bI] at f4 h44 g7 ⊢
        simp (decide := true) only [q41_138, q41_139, q41_142, q41_145, q41_146, q41_147, q41_150, q41_153, q41_154, q41_157, q41_158, q41_160, q41_161, q41_162, q41_165, q41_168, q41_170, q41_173, q41_174, q41_177, q41_178, W_1, W_I, W_mk, W_tk, pm_rv, rf_0_0, rf_0_1, rf_0_2, rf_0_3, rf_0_4, rf_0_7, rf_0_8, rf_1_0, rf_1_2, rf_3_0, rf_3_1, rf_3_6, rf_3_7, rf_3_8, rf_9_0, rf_9_1, rf_10_0, rf_10_1, rf_10_6, rf_10_7, rf_10_8, rf_17_0, rf_17_1, rf_538_2, rf_538_6, rf_538_7, rf_538_9, rf_538_11, rf_538_12, rf_538_18, rf_538_19, rf_538_22, rf_538_23, rf_538_25, rf_538_27, rf_538_28, rf_538_30, rf_538_31, rf_538_32, rf_538_33, rf_538_34, rf_538_35, rf_538_36, ob_0, ob_1, ob_3, ob_9, ob_10, ob_17, ob_538, ar_2, ar_4, ar_5, ar_6, ar_7, ar_8, ar_11, ar_12, ar_13, ar_14, ar_15, ar_16, ar_116, ar_117, ar_539, ar_540, ar_541, ar_542, ar_543, ar_544, ar_545, ar_546, ar_547, ar_548, ar_549, ar_550, ar_551, ar_552, ar_553, ar_554, ar_555, ar_556, ar_557, ar_558, ex_eq, ex_ite, pm_bk_r, pm_bk_t, ol_nil, ol_one, true_and, and_true, false_and, and_false, reduceIte, Nat.reduceEqDiff, up_at, Nat.add_left_cancel_iff, h4, g7, h44, f4]
    | some x =>
      refine ⟨fun y hy => ?_, fun hx => (by cases hx)⟩
      injection hy with hy
      subst hy
      obtain ⟨J1, g1, g2, g3⟩ := h36.1 x e2
      have hx := m_plain_ok e2
      have hw := g1.w (b := false)
      obtain ⟨J2, f1, f2, f3⟩ := c40 (d := d + 2) (k := k) (o := o) (l := 6) (by omega) (by omega) W1 _ _ hw (by rw [List.length_append, cK_len]; simp; omega) (by omega)
      have lf := fl_len (l := 6) (W := W1)
      have eK : cK K ++ [(nI x.2.1, nI x.2.2)] ++ cK (m_fl 6 W1) = cK (K ++ [x.2] ++ m_fl 6 W1) := by
        rw [cK_app, cK_app]
        rfl
      rw [eK] at f1
      obtain ⟨J3, l1, l2, l3, l4, l5, l6, l7⟩ := c41_c (d := d) (k := k) (o := o) (y1 := some (.int (nI b))) (y4 := z4) (y5 := some (.int 1)) (c2 := bI ch) hT 250 x.1 b1 (m_rst 6 W1) (K ++ [x.2] ++ m_fl 6 W1) J2 (by omega) f1 (a2.rst (by omega)) a3 hx.2 (by rw [List.length_append, List.length_append]; simp; omega)
      refine ⟨J3, l1, l2, l3, l4, l5, (((a6.trans g2).trans fW).trans f2).trans l6, fun q => ?_⟩
      have h44 : J1 538 4 = 0 := g1.2.2.1
      have f3' : ∀ q, (pm_C (d + 4) 40 [.ref 538, .int 6] (Wm (pm_up J1 538 4 0) k o) q ↔ q = (.inl none, Wm J2 k o)) := f3
      rw [hopen, a7]
      simp (decide := true) only [q41_138, q41_139, q41_142, q41_145, q41_146, q41_147, q41_150, q41_153, q41_154, q41_157, q41_158, q41_160, q41_161, q41_162, q41_165, q41_168, q41_170, q41_173, q41_174, q41_177, q41_178, q41_181, q41_182, q41_184, W_1, W_I, W_mk, W_tk, pm_rv, rf_0_0, rf_0_1, rf_0_2, rf_0_3, rf_0_4, rf_0_7, rf_0_8, rf_1_0, rf_1_2, rf_3_0, rf_3_1, rf_3_6, rf_3_7, rf_3_8, rf_9_0, rf_9_1, rf_10_0, rf_10_1, rf_10_6, rf_10_7, rf_10_8, rf_17_0, rf_17_1, rf_538_2, rf_538_6, rf_538_7, rf_538_9, rf_538_11, rf_538_12, rf_538_18, rf_538_19, rf_538_22, rf_538_23, rf_538_25, rf_538_27, rf_538_28, rf_538_30, rf_538_31, rf_538_32, rf_538_33, rf_538_34, rf_538_35, rf_538_36, ob_0, ob_1, ob_3, ob_9, ob_10, ob_17, ob_538, ar_2, ar_4, ar_5, ar_6, ar_7, ar_8, ar_11, ar_12, ar_13, ar_14, ar_15, ar_16, ar_116, ar_117, ar_539, ar_540, ar_541, ar_542, ar_543, ar_544, ar_545, ar_546, ar_547, ar_548, ar_549, ar_550, ar_551, ar_552, ar_553, ar_554, ar_555, ar_556, ar_557, ar_558, ex_eq, ex_ite, pm_bk_r, pm_bk_t, ol_nil, ol_one, true_and, and_true, false_and, and_false, reduceIte, Nat.reduceEqDiff, up_at, Nat.add_left_cancel_iff, h4, g3, h44, f3', l7]
theorem op_ok {c : Nat} {x : Nat} (h : m_op c = some x) : 5 ≤ x ∧ x ≤ 11 ∧ 1 ≤ m_st x ∧ m_st x ≤ 5 ∧ c ≠ 0 := by
  unfold m_op at h
  cases e : e_ix e_O c with
  | none => rw [e] at h; cases h
  | some w =>
    rw [e] at h
    injection h with h
    subst h
    have hw := ix_lv e
    have h1 := e_cd_ok hw.1
    have h2 := cd_st w hw.1
    have : ∀ w, w < 7 → e_lv w < 5 := by decide
    have := this w hw.1
    exact ⟨h1.1, h1.2, by omega, by omega, hw.2.2.2⟩
/-- an expression that went wrong -/
theorem c42_w {p : Nat} {K : List (Int32 × Int32)} {W : List Nat} {I : Nat → Nat → Int32} (h : MT T p true K W I) (hl : K.length + W.length ≤ p) (hp : p ≤ 240) {y1 y3 y4 : Option Value} {v2 : Int32} : ∃ J K' W', MT T p true K' W' J ∧ K'.length + W'.length ≤ p ∧ FN I J ∧ ∀ q, (pm_R (d + 5) 42 12 [some (.ref 538), y1, some (.int v2), y3, y4] [] (Wm I k o) q ↔ q = (.inl none, Wm J k o)) := by
  have hw := h.w (b := true)
  obtain ⟨J, a1, a2, a3⟩ := c40 (d := d + 3) (k := k) (o := o) (l := 1) (by omega) (by omega) W K _ hw (by omega) (by omega)
  have lf := fl_len (l := 1) (W := W)
  refine ⟨J, _, _, a1, by rw [List.length_append, cK_len]; omega, fW.trans a2, fun q => ?_⟩
  have a3' : ∀ q, (pm_C (d + 5) 40 [.ref 538, .int 1] (Wm (pm_up I 538 4 1) k o) q ↔ q = (.inl none, Wm J k o)) := a3
  have h4 : I 538 4 = 1 := h.2.2.1
  rw [q42_12]
  simp (decide := true) only [q42_13, q42_16, q42_141, q42_142, q42_143, q42_146, q42_149, q42_150, q42_153, q42_154, q42_157, q42_158, q42_161, q42_162, q42_163, q42_166, W_1, W_I, W_mk, W_tk, pm_rv, rf_0_0, rf_0_1, rf_0_2, rf_0_3, rf_0_4, rf_0_7, rf_0_8, rf_1_0, rf_1_2, rf_3_0, rf_3_1, rf_3_6, rf_3_7, rf_3_8, rf_9_0, rf_9_1, rf_10_0, rf_10_1, rf_10_6, rf_10_7, rf_10_8, rf_17_0, rf_17_1, rf_538_2, rf_538_6, rf_538_7, rf_538_9, rf_538_11, rf_538_12, rf_538_18, rf_538_19, rf_538_22, rf_538_23, rf_538_25, rf_538_27, rf_538_28, rf_538_30, rf_538_31, rf_538_32, rf_538_33, rf_538_34, rf_538_35, rf_538_36, ob_0, ob_1, ob_3, ob_9, ob_10, ob_17, ob_538, ar_2, ar_4, ar_5, ar_6, ar_7, ar_8, ar_11, ar_12, ar_13, ar_14, ar_15, ar_16, ar_116, ar_117, ar_539, ar_540, ar_541, ar_542, ar_543, ar_544, ar_545, ar_546, ar_547, ar_548, ar_549, ar_550, ar_551, ar_552, ar_553, ar_554, ar_555, ar_556, ar_557, ar_558, ex_eq, ex_ite, pm_bk_r, pm_bk_t, ol_nil, ol_one, true_and, and_true, false_and, and_false, reduceIte, Nat.reduceEqDiff, up_at, Nat.add_left_cancel_iff, h4, a3']
theorem c42_l (hT : TX T) {ch : Bool} : ∀ m p b W (K : List (Nat × Nat)) (I : Nat → Nat → Int32) (y3 y4 : Option Value), T.length ≤ m + p → MT T p false (cK K) W I → WO b W → b ≤ 4 → p ≤ T.length → K.length + W.length ≤ p →
    (∀ x, m_loop T ch m p b W K = some x → ∃ J, MT T x.1 false (cK x.2) [] J ∧ x.1 ≤ T.length ∧ x.2.length ≤ x.1 ∧ p ≤ x.1 ∧ FN I J ∧ ∀ q, (pm_R (d + 5) 42 12 [some (.ref 538), some (.int (bI ch)), some (.int (nI b)), y3, y4] [] (Wm I k o) q ↔ q = (.inl none, Wm J k o))) ∧
    (m_loop T ch m p b W K = none → ∃ J p' K' W', MT T p' true K' W' J ∧ p' ≤ T.length ∧ K'.length + W'.length ≤ p' ∧ FN I J ∧ ∀ q, (pm_R (d + 5) 42 12 [some (.ref 538), some (.int (bI ch)), some (.int (nI b)), y3, y4] [] (Wm I k o) q ↔ q = (.inl none, Wm J k o))) := by
  have h240 := hT.1
  -- the end of it
  have hend : ∀ p b W (K : List (Nat × Nat)) (I : Nat → Nat → Int32) (y3 y4 : Option Value), m_op (nx T p) = none → MT T p false (cK K) W I → WO b W → b ≤ 4 → p ≤ T.length → K.length + W.length ≤ p →
      (∀ x, (if 0 < b then none else some (p, K ++ m_fl 1 W)) = some x → ∃ J, MT T x.1 false (cK x.2) [] J ∧ x.1 ≤ T.length ∧ x.2.length ≤ x.1 ∧ p ≤ x.1 ∧ FN I J ∧ ∀ q, (pm_R (d + 5) 42 12 [some (.ref 538), some (.int (bI ch)), some (.int (nI b)), y3, y4] [] (Wm I k o) q ↔ q = (.inl none, Wm J k o))) ∧
      ((if 0 < b then none else some (p, K ++ m_fl 1 W)) = none → ∃ J p' K' W', MT T p' true K' W' J ∧ p' ≤ T.length ∧ K'.length + W'.length ≤ p' ∧ FN I J ∧ ∀ q, (pm_R (d + 5) 42 12 [some (.ref 538), some (.int (bI ch)), some (.int (nI b)), y3, y4] [] (Wm I k o) q ↔ q = (.inl none, Wm J k o))) := by
    intro p b W K I y3 y4 hno h hW hb hp hl
    have h126 := nx_126 hT p
    have a26 : ∀ q, (pm_C (d + 5) 26 [.ref 538] (Wm I k o) q ↔ q = (.inl (some (.int (nI (nx T p)))), Wm I k o)) := fun q => c26 (d := d + 4) hT h.1 h.2.1 (by omega)
    have a37 : ∀ {M : pm_Mem} q, (pm_C (d + 5) 37 [.int (nI (nx T p))] M q ↔ q = (.inl (some (.int (-1))), M)) := fun {M} q => by
      have := c37 (d := d + 4) (M := M) (q := q) (show nx T p < 128 by omega)
      rw [hno] at this
      exact this
    have h4 : I 538 4 = 0 := h.2.2.1
    have eb : (0 < nI b) ↔ 0 < b := sm_lt (a := 0) (by omega) (by omega)
    have lf := fl_len (l := 1) (W := W)
    by_cases hb0 : 0 < b
    · rw [if_pos hb0]
      refine ⟨fun x hx => (by cases hx), fun _ => ?_⟩
      have hw := h.w (b := true)
      obtain ⟨J, a1, a2, a3⟩ := c40 (d := d + 3) (k := k) (o := o) (l := 1) (by omega) (by omega) W _ _ hw (by rw [cK_len]; omega) (by omega)
      refine ⟨J, p, _, _, a1, hp, by rw [List.length_append, cK_len, cK_len]; omega, fW.trans a2, fun q => ?_⟩
      have a3' : ∀ q, (pm_C (d + 5) 40 [.ref 538, .int 1] (Wm (pm_up I 538 4 1) k o) q ↔ q = (.inl none, Wm J k o)) := a3
      rw [q42_12]
      simp (decide := true) only [q42_13, q42_16, q42_19, q42_20, q42_23, q42_26, q42_141, q42_142, q42_143, q42_146, q42_149, q42_150, q42_153, q42_154, q42_157, q42_158, q42_161, q42_162, q42_163, q42_166, W_1, W_I, W_mk, W_tk, pm_rv, rf_0_0, rf_0_1, rf_0_2, rf_0_3, rf_0_4, rf_0_7, rf_0_8, rf_1_0, rf_1_2, rf_3_0, rf_3_1, rf_3_6, rf_3_7, rf_3_8, rf_9_0, rf_9_1, rf_10_0, rf_10_1, rf_10_6, rf_10_7, rf_10_8, rf_17_0, rf_17_1, rf_538_2, rf_538_6, rf_538_7, rf_538_9, rf_538_11, rf_538_12, rf_538_18, rf_538_19, rf_538_22, rf_538_23, rf_538_25, rf_538_27, rf_538_28, rf_538_30, rf_538_31, rf_538_32, rf_538_33, rf_538_34, rf_538_35, rf_538_36, ob_0, ob_1, ob_3, ob_9, ob_10, ob_17, ob_538, ar_2, ar_4, ar_5, ar_6, ar_7, ar_8, ar_11, ar_12, ar_13, ar_14, ar_15, ar_16, ar_116, ar_117, ar_539, ar_540, ar_541, ar_542, ar_543, ar_544, ar_545, ar_546, ar_547, ar_548, ar_549, ar_550, ar_551, ar_552, ar_553, ar_554, ar_555, ar_556, ar_557, ar_558, ex_eq, ex_ite, pm_bk_r, pm_bk_t, ol_nil, ol_one, true_and, and_true, false_and, and_false, reduceIte, Nat.reduceEqDiff, up_at, Nat.add_left_cancel_iff, h4, a26, a37, eb, hb0, a3']
    · rw [if_neg hb0]
      refine ⟨fun x hx => ?_, fun hx => (by cases hx)⟩
      injection hx with hx
      subst hx
      have hw := h.w (b := false)
      obtain ⟨J, a1, a2, a3⟩ := c40 (d := d + 3) (k := k) (o := o) (l := 1) (by omega) (by omega) W _ _ hw (by rw [cK_len]; omega) (by omega)
      have hW0 : WO 0 W := by rw [show (0 : Nat) = b by omega]; exact hW
      rw [hW0.all] at a1 lf
      rw [← cK_app] at a1
      refine ⟨J, a1, hp, by show (K ++ m_fl 1 W).length ≤ p; rw [List.length_append]; simp at lf; omega, Nat.le_refl _, fW.trans a2, fun q => ?_⟩
      have a3' : ∀ q, (pm_C (d + 5) 40 [.ref 538, .int 1] (Wm (pm_up I 538 4 0) k o) q ↔ q = (.inl none, Wm J k o)) := a3
      rw [q42_12]
      simp (decide := true) only [q42_13, q42_16, q42_19, q42_20, q42_23, q42_26, q42_141, q42_142, q42_143, q42_146, q42_149, q42_150, q42_153, q42_154, q42_157, q42_158, q42_161, q42_162, q42_163, q42_166, W_1, W_I, W_mk, W_tk, pm_rv, rf_0_0, rf_0_1, rf_0_2, rf_0_3, rf_0_4, rf_0_7, rf_0_8, rf_1_0, rf_1_2, rf_3_0, rf_3_1, rf_3_6, rf_3_7, rf_3_8, rf_9_0, rf_9_1, rf_10_0, rf_10_1, rf_10_6, rf_10_7, rf_10_8, rf_17_0, rf_17_1, rf_538_2, rf_538_6, rf_538_7, rf_538_9, rf_538_11, rf_538_12, rf_538_18, rf_538_19, rf_538_22, rf_538_23, rf_538_25, rf_538_27, rf_538_28, rf_538_30, rf_538_31, rf_538_32, rf_538_33, rf_538_34, rf_538_35, rf_538_36, ob_0, ob_1, ob_3, ob_9, ob_10, ob_17, ob_538, ar_2, ar_4, ar_5, ar_6, ar_7, ar_8, ar_11, ar_12, ar_13, ar_14, ar_15, ar_16, ar_116, ar_117, ar_539, ar_540, ar_541, ar_542, ar_543, ar_544, ar_545, ar_546, ar_547, ar_548, ar_549, ar_550, ar_551, ar_552, ar_553, ar_554, ar_555, ar_556, ar_557, ar_558, ex_eq, ex_ite, pm_bk_r, pm_bk_t, ol_nil, ol_one, true_and, and_true, false_and, and_false, reduceIte, Nat.reduceEqDiff, up_at, Nat.add_left_cancel_iff, h4, a26, a37, eb, hb0, a3']
  intro m
  induction m with
  | zero =>
    intro p b W K I y3 y4 hm h hW hb hp hl
    have hno : m_op (nx T p) = none := by rw [nx_ge (by omega)]; rfl
    exact hend p b W K I y3 y4 hno h hW hb hp hl
  | succ m ih =>
    intro p b W K I y3 y4 hm h hW hb hp hl
    unfold m_loop
    cases eo : m_op (nx T p) with
    | none => exact hend p b W K I y3 y4 eo h hW hb hp hl
    | some x =>
      have hx := op_ok eo
      have hlt := nx_lt hx.2.2.2.2
      have h126 := nx_126 hT p
      have a26 : ∀ q, (pm_C (d + 5) 26 [.ref 538] (Wm I k o) q ↔ q = (.inl (some (.int (nI (nx T p)))), Wm I k o)) := fun q => c26 (d := d + 4) hT h.1 h.2.1 (by omega)
      have a37 : ∀ {M : pm_Mem} q, (pm_C (d + 5) 37 [.int (nI (nx T p))] M q ↔ q = (.inl (some (.int (nI x))), M)) := fun {M} q => by
        have := c37 (d := d + 4) (M := M) (q := q) (show nx T p < 128 by omega)
        rw [eo] at this
        exact this
      have a38 : ∀ {M : pm_Mem} q, (pm_C (d + 5) 38 [.int (nI x)] M q ↔ q = (.inl (some (.int (nI (m_st x)))), M)) := fun q => c38 x (by omega)
      have h4 : I 538 4 = 0 := h.2.2.1
      have e0 : (nI x < 0) ↔ False := iff_false_intro (sm_neg (by omega))
      have e3 : (nI (m_st x) = 3) ↔ m_st x = 3 := sm_inj (b := 3) (by omega) (by omega)
      have hA : MT T (p + 1) false (cK K) W (uA I (p + 1)) := h.a
      have hls : 1 ≤ m_lst x ∧ m_lst x ≤ 6 := by unfold m_lst; split <;> omega
      obtain ⟨J, a1, a2, a3⟩ := c40 (d := d + 3) (k := k) (o := o) (l := m_lst x) hls.1 hls.2 W _ _ hA (by rw [cK_len]; omega) (by omega)
      have lf := fl_len (l := m_lst x) (W := W)
      rw [← cK_app] at a1
      have a39 : ∀ q, (pm_C (d + 5) 39 [.ref 538] (Wm J k o) q ↔ q = (.inl (some (.int (nI (m_tp (m_rst (m_lst x) W))))), Wm J k o)) := fun q => c39 (d := d + 4) a1 (by omega)
      have t99 := tp_99 a1.2.2.2.2.2.2
      have a38' : ∀ {M : pm_Mem} q, (pm_C (d + 5) 38 [.int (nI (m_tp (m_rst (m_lst x) W)))] M q ↔ q = (.inl (some (.int (nI (m_st (m_tp (m_rst (m_lst x) W)))))), M)) := fun q => c38 _ (by omega)
      have st6 := st_6 (m_tp (m_rst (m_lst x) W))
      have e3' : (nI (m_st (m_tp (m_rst (m_lst x) W))) = 3) ↔ m_st (m_tp (m_rst (m_lst x) W)) = 3 := sm_inj (b := 3) (by omega) (by omega)
      have hcmp : (m_st x = 3 ∧ m_st (m_tp (m_rst 4 W)) = 3) ↔ (m_st x = 3 ∧ m_st (m_tp (m_rst (m_lst x) W)) = 3) := by
        constructor
        · rintro ⟨q1, q2⟩
          refine ⟨q1, ?_⟩
          unfold m_lst
          rw [if_pos q1]
          exact q2
        · rintro ⟨q1, q2⟩
          refine ⟨q1, ?_⟩
          unfold m_lst at q2
          rw [if_pos q1] at q2
          exact q2
      obtain ⟨wr, hwr⟩ : ∃ wr, wr = decide (m_st x = 3 ∧ m_st (m_tp (m_rst (m_lst x) W)) = 3) := ⟨_, rfl⟩
      have hw := a1.w (b := wr)
      have hP := hw.push (w := x) (by omega)
      obtain ⟨J2, hJ2⟩ : ∃ J2, J2 = uP (uW J wr) (m_rst (m_lst x) W).length x := ⟨_, rfl⟩
      rw [← hJ2] at hP
      have F2 : FN I J2 := by rw [hJ2]; exact ((fA.trans a2).trans fW).trans fP
      have h8 : J 538 8 = nI (m_rst (m_lst x) W).length := a1.2.2.2.2.1
      have h44 : J2 538 4 = bI wr := hP.2.2.1
      have hopen : ∀ q, (pm_R (d + 5) 42 12 [some (.ref 538), some (.int (bI ch)), some (.int (nI b)), y3, y4] [] (Wm I k o) q ↔ pm_R (d + 5) 42 124 [some (.ref 538), some (.int (bI ch)), some (.int (nI b)), some (.int (nI x)), some (.int (if m_st x = 3 then 1 else 0))] [] (Wm J2 k o) q) := by
        intro q
        rw [q42_12, hJ2]
        unfold uP uW
        by_cases c3 : m_st x = 3
        · have el : m_lst x = 4 := if_pos c3
          rw [el] at a3 a39 a38' e3' hwr h8 st6 ⊢
          have a3' : ∀ q, (pm_C (d + 5) 40 [.ref 538, .int 4] (Wm (pm_up I 538 3 (nI (p + 1))) k o) q ↔ q = (.inl none, Wm J k o)) := a3
          rw [el] at lf
          by_cases c3' : m_st (m_tp (m_rst 4 W)) = 3
          · have ew : wr = true := by rw [hwr]; exact decide_eq_true ⟨c3, c3'⟩
            rw [ew]
            simp (decide := true) only [q42_13, q42_16, q42_19, q42_20, q42_23, q42_26, q42_29, q42_30, q42_33, q42_36, q42_37, q42_38, q42_39, q42_42, q42_43, q42_44, q42_47, q42_48, q42_51, q42_52, q42_55, q42_56, q42_59, q42_60, q42_62, q42_63, q42_65, q42_68, q42_69, q42_72, q42_73, q42_76, q42_79, q42_80, q42_82, q42_85, q42_86, q42_89, q42_92, q42_93, q42_96, q42_97, q42_100, q42_101, q42_104, q42_105, q42_108, q42_109, q42_112, q42_113, q42_114, q42_115, q42_116, q42_119, q42_120, q42_121, W_1, W_I, W_mk, W_tk, pm_rv, rf_0_0, rf_0_1, rf_0_2, rf_0_3, rf_0_4, rf_0_7, rf_0_8, rf_1_0, rf_1_2, rf_3_0, rf_3_1, rf_3_6, rf_3_7, rf_3_8, rf_9_0, rf_9_1, rf_10_0, rf_10_1, rf_10_6, rf_10_7, rf_10_8, rf_17_0, rf_17_1, rf_538_2, rf_538_6, rf_538_7, rf_538_9, rf_538_11, rf_538_12, rf_538_18, rf_538_19, rf_538_22, rf_538_23, rf_538_25, rf_538_27, rf_538_28, rf_538_30, rf_538_31, rf_538_32, rf_538_33, rf_538_34, rf_538_35, rf_538_36, ob_0, ob_1, ob_3, ob_9, ob_10, ob_17, ob_538, ar_2, ar_4, ar_5, ar_6, ar_7, ar_8, ar_11, ar_12, ar_13, ar_14, ar_15, ar_16, ar_116, ar_117, ar_539, ar_540, ar_541, ar_542, ar_543, ar_544, ar_545, ar_546, ar_547, ar_548, ar_549, ar_550, ar_551, ar_552, ar_553, ar_554, ar_555, ar_556, ar_557, ar_558, ex_eq, ex_ite, pm_bk_r, pm_bk_t, ol_nil, ol_one, true_and, and_true, false_and, and_false, reduceIte, Nat.reduceEqDiff, up_at, Nat.add_left_cancel_iff, h4, a26, a37, a38, e0, e3, c3, h.2.1, sm_s, a3', a39, a38', e3', c3', h8, sm_in (show (m_rst 4 W).length < 2147483648 by omega), show (m_rst 4 W).length < 250 by omega, sm_cl (show (m_rst 4 W).length < 2147483648 by omega)]
            exact Iff.rfl
          · have ew : wr = false := by rw [hwr]; exact decide_eq_false (fun q => c3' q.2)
            rw [ew]
            simp (decide := true) only [q42_13, q42_16, q42_19, q42_20, q42_23, q42_26, q42_29, q42_30, q42_33, q42_36, q42_37, q42_38, q42_39, q42_42, q42_43, q42_44, q42_47, q42_48, q42_51, q42_52, q42_55, q42_56, q42_59, q42_60, q42_62, q42_63, q42_65, q42_68, q42_69, q42_72, q42_73, q42_76, q42_79, q42_80, q42_82, q42_85, q42_86, q42_89, q42_92, q42_93, q42_96, q42_97, q42_100, q42_101, q42_104, q42_105, q42_108, q42_109, q42_112, q42_113, q42_114, q42_115, q42_116, q42_119, q42_120, q42_121, W_1, W_I, W_mk, W_tk, pm_rv, rf_0_0, rf_0_1, rf_0_2, rf_0_3, rf_0_4, rf_0_7, rf_0_8, rf_1_0, rf_1_2, rf_3_0, rf_3_1, rf_3_6, rf_3_7, rf_3_8, rf_9_0, rf_9_1, rf_10_0, rf_10_1, rf_10_6, rf_10_7, rf_10_8, rf_17_0, rf_17_1, rf_538_2, rf_538_6, rf_538_7, rf_538_9, rf_538_11, rf_538_12, rf_538_18, rf_538_19, rf_538_22, rf_538_23, rf_538_25, rf_538_27, rf_538_28, rf_538_30, rf_538_31, rf_538_32, rf_538_33, rf_538_34, rf_538_35, rf_538_36, ob_0, ob_1, ob_3, ob_9, ob_10, ob_17, ob_538, ar_2, ar_4, ar_5, ar_6, ar_7, ar_8, ar_11, ar_12, ar_13, ar_14, ar_15, ar_16, ar_116, ar_117, ar_539, ar_540, ar_541, ar_542, ar_543, ar_544, ar_545, ar_546, ar_547, ar_548, ar_549, ar_550, ar_551, ar_552, ar_553, ar_554, ar_555, ar_556, ar_557, ar_558, ex_eq, ex_ite, pm_bk_r, pm_bk_t, ol_nil, ol_one, true_and, and_true, false_and, and_false, reduceIte, Nat.reduceEqDiff, up_at, Nat.add_left_cancel_iff, h4, a26, a37, a38, e0, e3, c3, h.2.1, sm_s, a3', a39, a38', e3', c3', h8, sm_in (show (m_rst 4 W).length < 2147483648 by omega), show (m_rst 4 W).length < 250 by omega, sm_cl (show (m_rst 4 W).length < 2147483648 by omega)]
            exact Iff.rfl
        · have el : m_lst x = m_st x := if_neg c3
          rw [el] at a3 h8 lf ⊢
          have a3' : ∀ q, (pm_C (d + 5) 40 [.ref 538, .int (nI (m_st x))] (Wm (pm_up I 538 3 (nI (p + 1))) k o) q ↔ q = (.inl none, Wm J k o)) := a3
          have ew : wr = false := by rw [hwr]; exact decide_eq_false (fun q => c3 q.1)
          rw [ew]
          simp (decide := true) only [q42_13, q42_16, q42_19, q42_20, q42_23, q42_26, q42_29, q42_30, q42_33, q42_36, q42_37, q42_38, q42_39, q42_42, q42_43, q42_44, q42_47, q42_48, q42_51, q42_52, q42_55, q42_56, q42_59, q42_60, q42_62, q42_63, q42_65, q42_68, q42_69, q42_72, q42_73, q42_76, q42_79, q42_80, q42_82, q42_85, q42_86, q42_89, q42_92, q42_93, q42_96, q42_97, q42_100, q42_101, q42_104, q42_105, q42_108, q42_109, q42_112, q42_113, q42_114, q42_115, q42_116, q42_119, q42_120, q42_121, W_1, W_I, W_mk, W_tk, pm_rv, rf_0_0, rf_0_1, rf_0_2, rf_0_3, rf_0_4, rf_0_7, rf_0_8, rf_1_0, rf_1_2, rf_3_0, rf_3_1, rf_3_6, rf_3_7, rf_3_8, rf_9_0, rf_9_1, rf_10_0, rf_10_1, rf_10_6, rf_10_7, rf_10_8, rf_17_0, rf_17_1, rf_538_2, rf_538_6, rf_538_7, rf_538_9, rf_538_11, rf_538_12, rf_538_18, rf_538_19, rf_538_22, rf_538_23, rf_538_25, rf_538_27, rf_538_28, rf_538_30, rf_538_31, rf_538_32, rf_538_33, rf_538_34, rf_538_35, rf_538_36, ob_0, ob_1, ob_3, ob_9, ob_10, ob_17, ob_538, ar_2, ar_4, ar_5, ar_6, ar_7, ar_8, ar_11, ar_12, ar_13, ar_14, ar_15, ar_16, ar_116, ar_117, ar_539, ar_540, ar_541, ar_542, ar_543, ar_544, ar_545, ar_546, ar_547, ar_548, ar_549, ar_550, ar_551, ar_552, ar_553, ar_554, ar_555, ar_556, ar_557, ar_558, ex_eq, ex_ite, pm_bk_r, pm_bk_t, ol_nil, ol_one, true_and, and_true, false_and, and_false, reduceIte, Nat.reduceEqDiff, up_at, Nat.add_left_cancel_iff, h4, a26, a37, a38, e0, e3, c3, h.2.1, sm_s, a3', h8, sm_in (show (m_rst (m_st x) W).length < 2147483648 by omega), show (m_rst (m_st x) W).length < 250 by omega, sm_cl (show (m_rst (m_st x) W).length < 2147483648 by omega)]
          exact Iff.rfl
      have hlen : (K ++ m_fl (m_lst x) W).length + (x :: m_rst (m_lst x) W).length ≤ p + 1 := by rw [List.length_append, List.length_cons]; omega
      simp only []
      by_cases hc : m_st x = 3 ∧ m_st (m_tp (m_rst 4 W)) = 3
      · rw [if_pos hc]
        refine ⟨fun x hx => (by cases hx), fun _ => ?_⟩
        have ew : wr = true := by rw [hwr]; exact decide_eq_true (hcmp.mp hc)
        subst ew
        obtain ⟨J3, K', W', f1, f2, f3, f4⟩ := c42_w (d := d) (k := k) (o := o) (y1 := some (.int (bI ch))) (y3 := some (.int (nI x))) (y4 := some (.int (if m_st x = 3 then 1 else 0))) (v2 := nI b) hP (by rw [cK_len]; omega) (by omega)
        refine ⟨J3, p + 1, K', W', f1, by omega, f2, F2.trans f3, fun q => ?_⟩
        have h44' : J2 538 4 = 1 := h44
        rw [hopen]
        simp (decide := true) only [q42_124, q42_125, q42_128, q42_138, W_1, W_I, W_mk, W_tk, pm_rv, rf_0_0, rf_0_1, rf_0_2, rf_0_3, rf_0_4, rf_0_7, rf_0_8, rf_1_0, rf_1_2, rf_3_0, rf_3_1, rf_3_6, rf_3_7, rf_3_8, rf_9_0, rf_9_1, rf_10_0, rf_10_1, rf_10_6, rf_10_7, rf_10_8, rf_17_0, rf_17_1, rf_538_2, rf_538_6, rf_538_7, rf_538_9, rf_538_11, rf_538_12, rf_538_18, rf_538_19, rf_538_22, rf_538_23, rf_538_25, rf_538_27, rf_538_28, rf_538_30, rf_538_31, rf_538_32, rf_538_33, rf_538_34, rf_538_35, rf_538_36, ob_0, ob_1, ob_3, ob_9, ob_10, ob_17, ob_538, ar_2, ar_4, ar_5, ar_6, ar_7, ar_8, ar_11, ar_12, ar_13, ar_14, ar_15, ar_16, ar_116, ar_117, ar_539, ar_540, ar_541, ar_542, ar_543, ar_544, ar_545, ar_546, ar_547, ar_548, ar_549, ar_550, ar_551, ar_552, ar_553, ar_554, ar_555, ar_556, ar_557, ar_558, ex_eq, ex_ite, pm_bk_r, pm_bk_t, ol_nil, ol_one, true_and, and_true, false_and, and_false, reduceIte, Nat.reduceEqDiff, up_at, Nat.add_left_cancel_iff, h44', f4]
      · rw [if_neg hc]
        have ew : wr = false := by rw [hwr]; exact decide_eq_false (fun q => hc (hcmp.mpr q))
        subst ew
        have h44' : J2 538 4 = 0 := h44
        have hO := c41 (d := d) (k := k) (o := o) (ch := ch) hT hb hP ((hW.rst hls.1).push (show x ≠ 99 by omega) hx.2.2.1) (by omega) hlen
        cases e1 : m_opd T ch (p + 1) b (x :: m_rst (m_lst x) W) (K ++ m_fl (m_lst x) W) with
        | none =>
          refine ⟨fun x hx => (by cases hx), fun _ => ?_⟩
          obtain ⟨J3, p', K', W', v, g1, g2, g3, g4, g5⟩ := hO.2 e1
          obtain ⟨J4, K2, W2, f1, f2, f3, f4⟩ := c42_w (d := d) (k := k) (o := o) (y1 := some (.int (bI ch))) (y3 := some (.int (nI x))) (y4 := some (.int (if m_st x = 3 then 1 else 0))) (v2 := v) g1 g3 (by omega)
          refine ⟨J4, p', K2, W2, f1, g2, f2, (F2.trans g4).trans f3, fun q => ?_⟩
          rw [hopen]
          simp (decide := true) only [q42_124, q42_125, q42_128, q42_131, q42_132, q42_133, q42_134, q42_137, q42_138, W_1, W_I, W_mk, W_tk, pm_rv, rf_0_0, rf_0_1, rf_0_2, rf_0_3, rf_0_4, rf_0_7, rf_0_8, rf_1_0, rf_1_2, rf_3_0, rf_3_1, rf_3_6, rf_3_7, rf_3_8, rf_9_0, rf_9_1, rf_10_0, rf_10_1, rf_10_6, rf_10_7, rf_10_8, rf_17_0, rf_17_1, rf_538_2, rf_538_6, rf_538_7, rf_538_9, rf_538_11, rf_538_12, rf_538_18, rf_538_19, rf_538_22, rf_538_23, rf_538_25, rf_538_27, rf_538_28, rf_538_30, rf_538_31, rf_538_32, rf_538_33, rf_538_34, rf_538_35, rf_538_36, ob_0, ob_1, ob_3, ob_9, ob_10, ob_17, ob_538, ar_2, ar_4, ar_5, ar_6, ar_7, ar_8, ar_11, ar_12, ar_13, ar_14, ar_15, ar_16, ar_116, ar_117, ar_539, ar_540, ar_541, ar_542, ar_543, ar_544, ar_545, ar_546, ar_547, ar_548, ar_549, ar_550, ar_551, ar_552, ar_553, ar_554, ar_555, ar_556, ar_557, ar_558, ex_eq, ex_ite, pm_bk_r, pm_bk_t, ol_nil, ol_one, true_and, and_true, false_and, and_false, reduceIte, Nat.reduceEqDiff, up_at, Nat.add_left_cancel_iff, h44', g5, f4]
        | some y =>
          obtain ⟨p', b', W', K'⟩ := y
          obtain ⟨J3, g1, g2, g3, g4, g5, g6, g7⟩ := hO.1 _ e1
          have hlo := m_opd_lt h240 e1
          have hlo1 : p + 1 < p' := hlo.1
          have hr := ih p' b' W' K' J3 (some (.int (nI x))) (some (.int (if m_st x = 3 then 1 else 0))) (by omega) g1 g2 g3 g4 g5
          have hopen2 : ∀ q, (pm_R (d + 5) 42 12 [some (.ref 538), some (.int (bI ch)), some (.int (nI b)), y3, y4] [] (Wm I k o) q ↔ pm_R (d + 5) 42 12 [some (.ref 538), some (.int (bI ch)), some (.int (nI b')), some (.int (nI x)), some (.int (if m_st x = 3 then 1 else 0))] [] (Wm J3 k o) q) := by
            intro q
            rw [hopen]
            simp (decide := true) only [q42_124, q42_125, q42_128, q42_131, q42_132, q42_133, q42_134, q42_137, q42_138, W_1, W_I, W_mk, W_tk, pm_rv, rf_0_0, rf_0_1, rf_0_2, rf_0_3, rf_0_4, rf_0_7, rf_0_8, rf_1_0, rf_1_2, rf_3_0, rf_3_1, rf_3_6, rf_3_7, rf_3_8, rf_9_0, rf_9_1, rf_10_0, rf_10_1, rf_10_6, rf_10_7, rf_10_8, rf_17_0, rf_17_1, rf_538_2, rf_538_6, rf_538_7, rf_538_9, rf_538_11, rf_538_12, rf_538_18, rf_538_19, rf_538_22, rf_538_23, rf_538_25, rf_538_27, rf_538_28, rf_538_30, rf_538_31, rf_538_32, rf_538_33, rf_538_34, rf_538_35, rf_538_36, ob_0, ob_1, ob_3, ob_9, ob_10, ob_17, ob_538, ar_2, ar_4, ar_5, ar_6, ar_7, ar_8, ar_11, ar_12, ar_13, ar_14, ar_15, ar_16, ar_116, ar_117, ar_539, ar_540, ar_541, ar_542, ar_543, ar_544, ar_545, ar_546, ar_547, ar_548, ar_549, ar_550, ar_551, ar_552, ar_553, ar_554, ar_555, ar_556, ar_557, ar_558, ex_eq, ex_ite, pm_bk_r, pm_bk_t, ol_nil, ol_one, true_and, and_true, false_and, and_false, reduceIte, Nat.reduceEqDiff, up_at, Nat.add_left_cancel_iff, h44', g7]
          simp only []
          refine ⟨fun z hz => ?_, fun hz => ?_⟩
          · obtain ⟨J4, f1, f2, f3, f4, f5, f6⟩ := hr.1 z hz
            exact ⟨J4, f1, f2, f3, by omega, (F2.trans g6).trans f5, fun q => (hopen2 q).trans (f6 q)⟩
          · obtain ⟨J4, p2, K2, W2, f1, f2, f3, f4, f5⟩ := hr.2 hz
            exact ⟨J4, p2, K2, W2, f1, f2, f3, (F2.trans g6).trans f4, fun q => (hopen2 q).trans (f5 q)⟩
/-- an expression -/
theorem c42 (hT : TX T) {ch : Bool} {p : Nat} {K : List (Nat × Nat)} {W : List Nat} {I : Nat → Nat → Int32} (h : MT T p false (cK K) W I) (hp : p ≤ T.length) (hl : K.length ≤ p) :
    (∀ x, m_expr T ch p K = some x → ∃ J, MT T x.1 false (cK x.2) [] J ∧ x.1 ≤ T.length ∧ x.2.length ≤ x.1 ∧ FN I J ∧ ∀ q, (pm_C (d + 6) 42 [.ref 538, .int (bI ch)] (Wm I k o) q ↔ q = (.inl none, Wm J k o))) ∧
    (m_expr T ch p K = none → ∃ J p' K' W', MT T p' true K' W' J ∧ p' ≤ T.length ∧ K'.length + W'.length ≤ p' ∧ FN I J ∧ ∀ q, (pm_C (d + 6) 42 [.ref 538, .int (bI ch)] (Wm I k o) q ↔ q = (.inl none, Wm J k o))) := by
  have h240 := hT.1
  have hz := h.zero
  have hO := c41 (d := d) (k := k) (o := o) (ch := ch) (b := 0) hT (by omega) hz ⟨rfl, fun w hw => (by cases hw)⟩ hp (by simpa using hl)
  have hopen : ∀ q, (pm_C (d + 6) 42 [.ref 538, .int (bI ch)] (Wm I k o) q ↔ ∃ r, pm_C (d + 5) 41 [.ref 538, .int (nI 0), .int (bI ch)] (Wm (uN I 0) k o) r ∧ pm_bk (fun v M' => pm_R (d + 5) 42 11 [some (.ref 538), some (.int (bI ch)), none, none, none] (v.toList ++ []) M' q) (fun k M' => q = (.inr k, M')) r) := by
    intro q
    rw [n42]
    simp only [q42_0, q42_1, q42_2, q42_5, q42_6, q42_7, q42_8, W_1, W_I, W_mk, W_tk, pm_rv, rf_0_0, rf_0_1, rf_0_2, rf_0_3, rf_0_4, rf_0_7, rf_0_8, rf_1_0, rf_1_2, rf_3_0, rf_3_1, rf_3_6, rf_3_7, rf_3_8, rf_9_0, rf_9_1, rf_10_0, rf_10_1, rf_10_6, rf_10_7, rf_10_8, rf_17_0, rf_17_1, rf_538_2, rf_538_6, rf_538_7, rf_538_9, rf_538_11, rf_538_12, rf_538_18, rf_538_19, rf_538_22, rf_538_23, rf_538_25, rf_538_27, rf_538_28, rf_538_30, rf_538_31, rf_538_32, rf_538_33, rf_538_34, rf_538_35, rf_538_36, ob_0, ob_1, ob_3, ob_9, ob_10, ob_17, ob_538, ar_2, ar_4, ar_5, ar_6, ar_7, ar_8, ar_11, ar_12, ar_13, ar_14, ar_15, ar_16, ar_116, ar_117, ar_539, ar_540, ar_541, ar_542, ar_543, ar_544, ar_545, ar_546, ar_547, ar_548, ar_549, ar_550, ar_551, ar_552, ar_553, ar_554, ar_555, ar_556, ar_557, ar_558, ex_eq, ex_ite, pm_bk_r, pm_bk_t, ol_nil, ol_one, true_and, and_true, false_and, and_false, reduceIte, Nat.reduceEqDiff, up_at, Nat.add_left_cancel_iff]
    exact Iff.rfl
  unfold m_expr
  cases e1 : m_opd T ch p 0 [] K with
  | none =>
    refine ⟨fun x hx => (by cases hx), fun _ => ?_⟩
    obtain ⟨J3, p', K', W', v, g1, g2, g3, g4, g5⟩ := hO.2 e1
    obtain ⟨J4, K2, W2, f1, f2, f3, f4⟩ := c42_w (d := d) (k := k) (o := o) (y1 := some (.int (bI ch))) (y3 := none) (y4 := none) (v2 := v) g1 g3 (by omega)
    refine ⟨J4, p', K2, W2, f1, g2, f2, (fNn.trans g4).trans f3, fun q => ?_⟩
    rw [hopen]
    simp only [g5, ex_eq, ex_ite, pm_bk_r, pm_bk_t, ol_nil, ol_one, true_and, and_true, false_and, and_false, reduceIte, Nat.reduceEqDiff, up_at, Nat.add_left_cancel_iff, q42_11, f4]
  | some y =>
    obtain ⟨p', b', W', K'⟩ := y
    obtain ⟨J3, g1, g2, g3, g4, g5, g6, g7⟩ := hO.1 _ e1
    have hr := c42_l (d := d) (k := k) (o := o) (ch := ch) hT 250 p' b' W' K' J3 none none (by omega) g1 g2 g3 g4 g5
    have hopen2 : ∀ q, (pm_C (d + 6) 42 [.ref 538, .int (bI ch)] (Wm I k o) q ↔ pm_R (d + 5) 42 12 [some (.ref 538), some (.int (bI ch)), some (.int (nI b')), none, none] [] (Wm J3 k o) q) := by
      intro q
      rw [hopen]
      simp only [g7, ex_eq, ex_ite, pm_bk_r, pm_bk_t, ol_nil, ol_one, true_and, and_true, false_and, and_false, reduceIte, Nat.reduceEqDiff, up_at, Nat.add_left_cancel_iff, q42_11]
    simp only []
    refine ⟨fun z hz => ?_, fun hz => ?_⟩
    · obtain ⟨J4, f1, f2, f3, f4, f5, f6⟩ := hr.1 z hz
      exact ⟨J4, f1, f2, f3, (fNn.trans g6).trans f5, fun q => (hopen2 q).trans (f6 q)⟩
    · obtain ⟨J4, p2, K2, W2, f1, f2, f3, f4, f5⟩ := hr.2 hz
      exact ⟨J4, p2, K2, W2, f1, f2, f3, (fNn.trans g6).trans f4, fun q => (hopen2 q).trans (f5 q)⟩
end MOP
