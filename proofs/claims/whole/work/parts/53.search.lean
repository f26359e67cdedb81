/-! THE REFERENCE: search -/
def MF (x b : Nat) (P : Pos) (I : Nat → Nat → Int32) : Prop := MP x b P I ∧ I x (b + 12) = nI P.2.2.2
theorem MF.tr {x b y c : Nat} {P : Pos} {I J : Nat → Nat → Int32} (h : MF x b P I) (hl : PL P) (hj : ∀ j, j < 157 → J y (c + j) = I x (b + j)) : MF y c P J := by
  obtain ⟨⟨h1, h2, h3⟩, h4⟩ := h
  refine ⟨⟨fun p hp => ⟨?_, fun i hi => ?_⟩, fun j hj2 => ?_, fun j hj2 => ?_⟩, ?_⟩
  · rw [hj _ (by omega)]; exact (h1 p hp).1
  · rw [hj _ (by have := hl p hp; omega)]; exact (h1 p hp).2 i hi
  · rw [hj _ (by omega)]; exact h2 j hj2
  · rw [hj _ (by omega)]; exact h3 j hj2
  · rw [hj _ (by omega)]; exact h4
theorem cp_succ {I : Nat → Nat → Int32} {a sp b dp n : Nat} : pm_up (pm_cpy I a sp b dp n) b (dp + n) (I a (sp + n)) = pm_cpy I a sp b dp (n + 1) := by
  funext x j
  rw [up_at, cp_at, cp_at]
  by_cases e : x = b ∧ j = dp + n
  · rw [if_pos e, if_pos ⟨e.1, by omega, by omega⟩, e.2, show dp + n - dp = n by omega]
  · rw [if_neg e]
    by_cases e2 : x = b ∧ dp ≤ j ∧ j < dp + n
    · rw [if_pos e2, if_pos ⟨e2.1, by omega, by omega⟩]
    · rw [if_neg e2, if_neg (fun q => e2 ⟨q.1, q.2.1, by omega⟩)]
theorem cp_zero {I : Nat → Nat → Int32} {a sp b dp : Nat} : pm_cpy I a sp b dp 0 = I := by
  funext x j
  rw [cp_at, if_neg (fun q => by omega)]
theorem MF.cp {x b y c : Nat} {P : Pos} {I : Nat → Nat → Int32} (h : MF x b P I) (hl : PL P) : MF y c P (pm_cpy I x b y c 157) := h.tr hl (fun j hj => by
  rw [cp_at, if_pos ⟨rfl, by omega, by omega⟩, show c + j - c = j by omega])
section MSR
variable {d k : Nat} {o : Int64} {I : Nat → Nat → Int32} {q : pm_Res}
theorem k157 (e i : Nat) : (157 : Int32) * nI e + nI i = nI (157 * e + i) := by rw [show (157 : Int32) = nI 157 from rfl, sm_mul, sm_add]
theorem c73_l {e : Nat} (he : e < 11) : ∀ n i, i + n = 157 → (pm_R d 73 2 [some (.ref 538), some (.int (nI e)), some (.int (nI i))] [] (Wm (pm_cpy I 549 0 558 (157 * e) i) k o) q ↔ q = (.inl none, Wm (pm_cpy I 549 0 558 (157 * e) 157) k o)) := by
  intro n
  induction n with
  | zero =>
    intro i hi
    obtain rfl : i = 157 := by omega
    rw [q73_2]
    simp (decide := true) only [q73_3, q73_6, q73_33, ex_eq, ex_ite, pm_bk_r, pm_bk_t, ol_nil, ol_one, true_and, and_true, false_and, and_false, reduceIte, Nat.reduceEqDiff, up_at, Nat.add_left_cancel_iff]
  | succ n ih =>
    intro i hi
    have h1 : pm_cpy I 549 0 558 (157 * e) i 549 i = I 549 i := cp_ne (by decide)
    have h2 := cp_succ (I := I) (a := 549) (sp := 0) (b := 558) (dp := 157 * e) (n := i)
    rw [Nat.zero_add] at h2
    rw [q73_2]
    simp (decide := true) only [q73_3, q73_6, q73_9, q73_10, q73_13, q73_16, q73_17, q73_18, q73_19, q73_20, q73_21, q73_24, q73_25, q73_26, q73_27, q73_30, W_1, W_I, W_mk, W_tk, pm_rv, rf_0_0, rf_0_1, rf_0_2, rf_0_3, rf_0_4, rf_0_7, rf_0_8, rf_1_0, rf_1_2, rf_3_0, rf_3_1, rf_3_6, rf_3_7, rf_3_8, rf_9_0, rf_9_1, rf_10_0, rf_10_1, rf_10_6, rf_10_7, rf_10_8, rf_17_0, rf_17_1, rf_538_2, rf_538_6, rf_538_7, rf_538_9, rf_538_11, rf_538_12, rf_538_18, rf_538_19, rf_538_22, rf_538_23, rf_538_25, rf_538_27, rf_538_28, rf_538_30, rf_538_31, rf_538_32, rf_538_33, rf_538_34, rf_538_35, rf_538_36, ob_0, ob_1, ob_3, ob_9, ob_10, ob_17, ob_538, ar_2, ar_4, ar_5, ar_6, ar_7, ar_8, ar_11, ar_12, ar_13, ar_14, ar_15, ar_16, ar_116, ar_117, ar_539, ar_540, ar_541, ar_542, ar_543, ar_544, ar_545, ar_546, ar_547, ar_548, ar_549, ar_550, ar_551, ar_552, ar_553, ar_554, ar_555, ar_556, ar_557, ar_558, ex_eq, ex_ite, pm_bk_r, pm_bk_t, ol_nil, ol_one, true_and, and_true, false_and, and_false, reduceIte, Nat.reduceEqDiff, up_at, Nat.add_left_cancel_iff, show (nI i < 157) ↔ True from iff_true_intro (by rw [show (157 : Int32) = nI 157 from rfl, sm_lt (by omega) (by omega)]; omega), k157, sm_in (show i < 2147483648 by omega), show i < 157 by omega, sm_cl (show i < 2147483648 by omega), sm_in (show 157 * e + i < 2147483648 by omega), show 157 * e + i < 1727 by omega, sm_cl (show 157 * e + i < 2147483648 by omega), h1, h2, sm_s, ih (i + 1) (by omega)]
theorem c73 {e : Nat} (he : e < 11) : pm_C (d + 1) 73 [.ref 538, .int (nI e)] (Wm I k o) q ↔ q = (.inl none, Wm (pm_cpy I 549 0 558 (157 * e) 157) k o) := by
  have := c73_l (d := d) (k := k) (o := o) (I := I) (q := q) he 157 0 rfl
  rw [cp_zero] at this
  rw [n73]
  simp only [q73_0, q73_1]
  exact this
theorem c74_l {e : Nat} (he : e < 11) : ∀ n i, i + n = 157 → (pm_R d 74 2 [some (.ref 538), some (.int (nI e)), some (.int (nI i))] [] (Wm (pm_cpy I 558 (157 * e) 549 0 i) k o) q ↔ q = (.inl none, Wm (pm_cpy I 558 (157 * e) 549 0 157) k o)) := by
  intro n
  induction n with
  | zero =>
    intro i hi
    obtain rfl : i = 157 := by omega
    rw [q74_2]
    simp (decide := true) only [q74_3, q74_6, q74_33, ex_eq, ex_ite, pm_bk_r, pm_bk_t, ol_nil, ol_one, true_and, and_true, false_and, and_false, reduceIte, Nat.reduceEqDiff, up_at, Nat.add_left_cancel_iff]
  | succ n ih =>
    intro i hi
    have h1 : pm_cpy I 558 (157 * e) 549 0 i 558 (157 * e + i) = I 558 (157 * e + i) := cp_ne (by decide)
    have h2 := cp_succ (I := I) (a := 558) (sp := 157 * e) (b := 549) (dp := 0) (n := i)
    rw [Nat.zero_add] at h2
    rw [q74_2]
    simp (decide := true) only [q74_3, q74_6, q74_9, q74_10, q74_13, q74_14, q74_15, q74_18, q74_21, q74_22, q74_23, q74_24, q74_25, q74_26, q74_27, q74_30, W_1, W_I, W_mk, W_tk, pm_rv, rf_0_0, rf_0_1, rf_0_2, rf_0_3, rf_0_4, rf_0_7, rf_0_8, rf_1_0, rf_1_2, rf_3_0, rf_3_1, rf_3_6, rf_3_7, rf_3_8, rf_9_0, rf_9_1, rf_10_0, rf_10_1, rf_10_6, rf_10_7, rf_10_8, rf_17_0, rf_17_1, rf_538_2, rf_538_6, rf_538_7, rf_538_9, rf_538_11, rf_538_12, rf_538_18, rf_538_19, rf_538_22, rf_538_23, rf_538_25, rf_538_27, rf_538_28, rf_538_30, rf_538_31, rf_538_32, rf_538_33, rf_538_34, rf_538_35, rf_538_36, ob_0, ob_1, ob_3, ob_9, ob_10, ob_17, ob_538, ar_2, ar_4, ar_5, ar_6, ar_7, ar_8, ar_11, ar_12, ar_13, ar_14, ar_15, ar_16, ar_116, ar_117, ar_539, ar_540, ar_541, ar_542, ar_543, ar_544, ar_545, ar_546, ar_547, ar_548, ar_549, ar_550, ar_551, ar_552, ar_553, ar_554, ar_555, ar_556, ar_557, ar_558, ex_eq, ex_ite, pm_bk_r, pm_bk_t, ol_nil, ol_one, true_and, and_true, false_and, and_false, reduceIte, Nat.reduceEqDiff, up_at, Nat.add_left_cancel_iff, show (nI i < 157) ↔ True from iff_true_intro (by rw [show (157 : Int32) = nI 157 from rfl, sm_lt (by omega) (by omega)]; omega), k157, sm_in (show i < 2147483648 by omega), show i < 157 by omega, sm_cl (show i < 2147483648 by omega), sm_in (show 157 * e + i < 2147483648 by omega), show 157 * e + i < 1727 by omega, sm_cl (show 157 * e + i < 2147483648 by omega), h1, h2, sm_s, ih (i + 1) (by omega)]
theorem c74 {e : Nat} (he : e < 11) : pm_C (d + 1) 74 [.ref 538, .int (nI e)] (Wm I k o) q ↔ q = (.inl none, Wm (pm_cpy I 558 (157 * e) 549 0 157) k o) := by
  have := c74_l (d := d) (k := k) (o := o) (I := I) (q := q) he 157 0 rfl
  rw [cp_zero] at this
  rw [n74]
  simp only [q74_0, q74_1]
  exact this
/-- a value given to the one above -/
theorem c75 {e kk t : Nat} {v : Int32} (he : e < 11) (hk : kk < 1000) (h1 : I 555 e = nI (kk + 1)) (h2 : I 558 (157 * e + 12) = nI t) (ht : t < 2) {P : Pos} (hP : P.2.2.2 = t) : pm_C (d + 1) 75 [.ref 538, .int (nI e), .int v] (Wm I k o) q ↔ q = (.inl none, Wm (pm_up (pm_up I 557 e (if kk = 0 ∨ s_bet P v (I 556 e) = true then nI kk else I 557 e)) 556 e (if kk = 0 ∨ s_bet P v (I 556 e) = true then v else I 556 e)) k o) := by
  have e1 : (nI (kk + 1) = 1) ↔ kk = 0 := by
    rw [show (1 : Int32) = nI 1 from rfl, sm_inj (by omega) (by omega)]; omega
  have e2 : (157 : Int32) * nI e + 12 = nI (157 * e + 12) := k157 e 12
  have e3 : nI (kk + 1) - 1 = nI kk := by rw [show (1 : Int32) = nI 1 from rfl, sm_sub (by omega)]; rfl
  have e4 : (nI t = 0) ↔ t = 0 := by rw [show (0 : Int32) = nI 0 from rfl, sm_inj (by omega) (by omega)]
  have e5 : s_bet P v (I 556 e) = true ↔ (if t = 0 then I 556 e < v else v < I 556 e) := by
    unfold s_bet
    rw [hP]
    split <;> simp
  have fin : ∀ b : Bool, (pm_R d 75 54 [some (.ref 538), some (.int (nI e)), some (.int v), none] [.int (if b = true then 1 else 0)] (Wm I k o) q ↔ q = (.inl none, Wm (pm_up (pm_up I 557 e (if b = true then nI kk else I 557 e)) 556 e (if b = true then v else I 556 e)) k o)) := by
    intro b
    cases b <;> simp (decide := true) only [q75_54, q75_55, q75_56, q75_59, q75_60, q75_61, q75_64, q75_65, q75_68, q75_69, q75_70, q75_71, q75_72, q75_75, q75_76, q75_79, q75_80, q75_81, q75_82, q75_83, q75_86, q75_87, q75_88, q75_91, q75_92, q75_95, q75_96, q75_99, q75_100, q75_101, q75_102, W_1, W_I, W_mk, W_tk, pm_rv, rf_0_0, rf_0_1, rf_0_2, rf_0_3, rf_0_4, rf_0_7, rf_0_8, rf_1_0, rf_1_2, rf_3_0, rf_3_1, rf_3_6, rf_3_7, rf_3_8, rf_9_0, rf_9_1, rf_10_0, rf_10_1, rf_10_6, rf_10_7, rf_10_8, rf_17_0, rf_17_1, rf_538_2, rf_538_6, rf_538_7, rf_538_9, rf_538_11, rf_538_12, rf_538_18, rf_538_19, rf_538_22, rf_538_23, rf_538_25, rf_538_27, rf_538_28, rf_538_30, rf_538_31, rf_538_32, rf_538_33, rf_538_34, rf_538_35, rf_538_36, ob_0, ob_1, ob_3, ob_9, ob_10, ob_17, ob_538, ar_2, ar_4, ar_5, ar_6, ar_7, ar_8, ar_11, ar_12, ar_13, ar_14, ar_15, ar_16, ar_116, ar_117, ar_539, ar_540, ar_541, ar_542, ar_543, ar_544, ar_545, ar_546, ar_547, ar_548, ar_549, ar_550, ar_551, ar_552, ar_553, ar_554, ar_555, ar_556, ar_557, ar_558, ex_eq, ex_ite, pm_bk_r, pm_bk_t, ol_nil, ol_one, true_and, and_true, false_and, and_false, reduceIte, Nat.reduceEqDiff, up_at, Nat.add_left_cancel_iff, sm_in (show e < 2147483648 by omega), he, sm_cl (show e < 2147483648 by omega), h1, e3]
  have yes : (pm_R d 75 49 [some (.ref 538), some (.int (nI e)), some (.int v), none] [] (Wm I k o) q ↔ q = (.inl none, Wm (pm_up (pm_up I 557 e (nI kk)) 556 e v) k o)) := by
    simp only [q75_49, q75_50]
    exact fin true
  have no : (pm_R d 75 53 [some (.ref 538), some (.int (nI e)), some (.int v), none] [] (Wm I k o) q ↔ q = (.inl none, Wm (pm_up (pm_up I 557 e (I 557 e)) 556 e (I 556 e)) k o)) := by
    simp only [q75_53]
    exact fin false
  rw [n75]
  simp only [q75_0, q75_1, q75_4, q75_5, q75_6, q75_7, W_1, W_I, W_mk, W_tk, pm_rv, rf_0_0, rf_0_1, rf_0_2, rf_0_3, rf_0_4, rf_0_7, rf_0_8, rf_1_0, rf_1_2, rf_3_0, rf_3_1, rf_3_6, rf_3_7, rf_3_8, rf_9_0, rf_9_1, rf_10_0, rf_10_1, rf_10_6, rf_10_7, rf_10_8, rf_17_0, rf_17_1, rf_538_2, rf_538_6, rf_538_7, rf_538_9, rf_538_11, rf_538_12, rf_538_18, rf_538_19, rf_538_22, rf_538_23, rf_538_25, rf_538_27, rf_538_28, rf_538_30, rf_538_31, rf_538_32, rf_538_33, rf_538_34, rf_538_35, rf_538_36, ob_0, ob_1, ob_3, ob_9, ob_10, ob_17, ob_538, ar_2, ar_4, ar_5, ar_6, ar_7, ar_8, ar_11, ar_12, ar_13, ar_14, ar_15, ar_16, ar_116, ar_117, ar_539, ar_540, ar_541, ar_542, ar_543, ar_544, ar_545, ar_546, ar_547, ar_548, ar_549, ar_550, ar_551, ar_552, ar_553, ar_554, ar_555, ar_556, ar_557, ar_558, ex_eq, ex_ite, pm_bk_r, pm_bk_t, ol_nil, ol_one, true_and, and_true, false_and, and_false, reduceIte, Nat.reduceEqDiff, up_at, Nat.add_left_cancel_iff, sm_in (show e < 2147483648 by omega), he, sm_cl (show e < 2147483648 by omega), h1, e1]
  by_cases hk0 : kk = 0
  · rw [if_pos hk0, if_pos (Or.inl hk0), if_pos (Or.inl hk0)]
    exact yes
  · rw [if_neg hk0]
    simp only [q75_10, q75_11, q75_14, q75_17, q75_18, q75_19, q75_21, q75_22, q75_23, W_1, W_I, W_mk, W_tk, pm_rv, rf_0_0, rf_0_1, rf_0_2, rf_0_3, rf_0_4, rf_0_7, rf_0_8, rf_1_0, rf_1_2, rf_3_0, rf_3_1, rf_3_6, rf_3_7, rf_3_8, rf_9_0, rf_9_1, rf_10_0, rf_10_1, rf_10_6, rf_10_7, rf_10_8, rf_17_0, rf_17_1, rf_538_2, rf_538_6, rf_538_7, rf_538_9, rf_538_11, rf_538_12, rf_538_18, rf_538_19, rf_538_22, rf_538_23, rf_538_25, rf_538_27, rf_538_28, rf_538_30, rf_538_31, rf_538_32, rf_538_33, rf_538_34, rf_538_35, rf_538_36, ob_0, ob_1, ob_3, ob_9, ob_10, ob_17, ob_538, ar_2, ar_4, ar_5, ar_6, ar_7, ar_8, ar_11, ar_12, ar_13, ar_14, ar_15, ar_16, ar_116, ar_117, ar_539, ar_540, ar_541, ar_542, ar_543, ar_544, ar_545, ar_546, ar_547, ar_548, ar_549, ar_550, ar_551, ar_552, ar_553, ar_554, ar_555, ar_556, ar_557, ar_558, ex_eq, ex_ite, pm_bk_r, pm_bk_t, ol_nil, ol_one, true_and, and_true, false_and, and_false, reduceIte, Nat.reduceEqDiff, up_at, Nat.add_left_cancel_iff, sm_in (show e < 2147483648 by omega), he, sm_cl (show e < 2147483648 by omega), e2, sm_in (show 157 * e + 12 < 2147483648 by omega), show 157 * e + 12 < 1727 by omega, sm_cl (show 157 * e + 12 < 2147483648 by omega), h2, e4]
    by_cases ht0 : t = 0
    · rw [if_pos ht0] at e5 ⊢
      simp only [q75_26, q75_27, q75_28, q75_31, q75_32, q75_33, q75_36, W_1, W_I, W_mk, W_tk, pm_rv, rf_0_0, rf_0_1, rf_0_2, rf_0_3, rf_0_4, rf_0_7, rf_0_8, rf_1_0, rf_1_2, rf_3_0, rf_3_1, rf_3_6, rf_3_7, rf_3_8, rf_9_0, rf_9_1, rf_10_0, rf_10_1, rf_10_6, rf_10_7, rf_10_8, rf_17_0, rf_17_1, rf_538_2, rf_538_6, rf_538_7, rf_538_9, rf_538_11, rf_538_12, rf_538_18, rf_538_19, rf_538_22, rf_538_23, rf_538_25, rf_538_27, rf_538_28, rf_538_30, rf_538_31, rf_538_32, rf_538_33, rf_538_34, rf_538_35, rf_538_36, ob_0, ob_1, ob_3, ob_9, ob_10, ob_17, ob_538, ar_2, ar_4, ar_5, ar_6, ar_7, ar_8, ar_11, ar_12, ar_13, ar_14, ar_15, ar_16, ar_116, ar_117, ar_539, ar_540, ar_541, ar_542, ar_543, ar_544, ar_545, ar_546, ar_547, ar_548, ar_549, ar_550, ar_551, ar_552, ar_553, ar_554, ar_555, ar_556, ar_557, ar_558, ex_eq, ex_ite, pm_bk_r, pm_bk_t, ol_nil, ol_one, true_and, and_true, false_and, and_false, reduceIte, Nat.reduceEqDiff, up_at, Nat.add_left_cancel_iff, sm_in (show e < 2147483648 by omega), he, sm_cl (show e < 2147483648 by omega)]
      by_cases hb : I 556 e < v
      · rw [if_pos hb, if_pos (Or.inr (e5.mpr hb)), if_pos (Or.inr (e5.mpr hb))]
        exact yes
      · have hn : ¬ (kk = 0 ∨ s_bet P v (I 556 e) = true) := fun q => q.elim hk0 (fun q => hb (e5.mp q))
        rw [if_neg hb, if_neg hn, if_neg hn]
        exact no
    · rw [if_neg ht0] at e5 ⊢
      simp only [q75_39, q75_40, q75_41, q75_44, q75_45, q75_46, W_1, W_I, W_mk, W_tk, pm_rv, rf_0_0, rf_0_1, rf_0_2, rf_0_3, rf_0_4, rf_0_7, rf_0_8, rf_1_0, rf_1_2, rf_3_0, rf_3_1, rf_3_6, rf_3_7, rf_3_8, rf_9_0, rf_9_1, rf_10_0, rf_10_1, rf_10_6, rf_10_7, rf_10_8, rf_17_0, rf_17_1, rf_538_2, rf_538_6, rf_538_7, rf_538_9, rf_538_11, rf_538_12, rf_538_18, rf_538_19, rf_538_22, rf_538_23, rf_538_25, rf_538_27, rf_538_28, rf_538_30, rf_538_31, rf_538_32, rf_538_33, rf_538_34, rf_538_35, rf_538_36, ob_0, ob_1, ob_3, ob_9, ob_10, ob_17, ob_538, ar_2, ar_4, ar_5, ar_6, ar_7, ar_8, ar_11, ar_12, ar_13, ar_14, ar_15, ar_16, ar_116, ar_117, ar_539, ar_540, ar_541, ar_542, ar_543, ar_544, ar_545, ar_546, ar_547, ar_548, ar_549, ar_550, ar_551, ar_552, ar_553, ar_554, ar_555, ar_556, ar_557, ar_558, ex_eq, ex_ite, pm_bk_r, pm_bk_t, ol_nil, ol_one, true_and, and_true, false_and, and_false, reduceIte, Nat.reduceEqDiff, up_at, Nat.add_left_cancel_iff, sm_in (show e < 2147483648 by omega), he, sm_cl (show e < 2147483648 by omega)]
      by_cases hb : v < I 556 e
      · rw [if_pos hb, if_pos (Or.inr (e5.mpr hb)), if_pos (Or.inr (e5.mpr hb))]
        exact yes
      · have hn : ¬ (kk = 0 ∨ s_bet P v (I 556 e) = true) := fun q => q.elim hk0 (fun q => hb (e5.mp q))
        rw [if_neg hb, if_neg hn, if_neg hn]
        exact no
end MSR
/-- only what lies from depth e on has changed -/
def FW (e : Nat) (I J : Nat → Nat → Int32) : Prop := ∀ x j, x ≠ 549 → x ≠ 551 → ¬ (x = 538 ∧ j = 29) → ¬ ((x = 552 ∨ x = 555 ∨ x = 556 ∨ x = 557) ∧ e ≤ j) → ¬ ((x = 553 ∨ x = 554) ∧ 200 * e ≤ j) → ¬ (x = 558 ∧ 157 * e ≤ j) → J x j = I x j
theorem FW.refl {e : Nat} {I : Nat → Nat → Int32} : FW e I I := fun _ _ _ _ _ _ _ _ => rfl
theorem FW.trans {e : Nat} {I J K : Nat → Nat → Int32} (h1 : FW e I J) (h2 : FW e J K) : FW e I K := fun x j a b c f g h => (h2 x j a b c f g h).trans (h1 x j a b c f g h)
theorem FW.up {e e' : Nat} (he : e ≤ e') {I J : Nat → Nat → Int32} (h : FW e' I J) : FW e I J := fun x j a b c f g i => h x j a b c (by omega) (by omega) (by omega)
theorem FM.fw {e : Nat} {I J : Nat → Nat → Int32} (h : FM I J) : FW e I J := fun x j a b c _ _ _ => h x j a b c
theorem FQ.fw {e : Nat} {I J : Nat → Nat → Int32} (h : FQ e I J) : FW e I J := fun x j a b c f g _ => h x j a b c (by omega) (by omega)
theorem FW.keep {e : Nat} {I : Nat → Nat → Int32} : FW e I (pm_cpy I 549 0 558 (157 * e) 157) := fun x j a b c f g h => by rw [cp_at, if_neg (fun q => h ⟨q.1, q.2.1⟩)]
theorem FW.back {e e' : Nat} {I : Nat → Nat → Int32} : FW e I (pm_cpy I 558 (157 * e') 549 0 157) := fun x j a b c f g h => cp_ne a
theorem FW.u {e x j : Nat} {v : Int32} {I : Nat → Nat → Int32} (hx : x = 552 ∨ x = 555 ∨ x = 556 ∨ x = 557) (hj : e ≤ j) : FW e I (pm_up I x j v) := fun y i a b c f g h => up_ne (fun q => f ⟨by omega, by omega⟩)
theorem GM.fw {e : Nat} {G : Gm} {I J : Nat → Nat → Int32} (h : GM G I) (hf : FW e I J) : GM G J := h.congr (fun j h1 h2 => hf _ _ (by decide) (by decide) (by omega) (by omega) (by omega) (by omega)) (fun x h1 h2 => by funext j; exact hf _ _ (by omega) (by omega) (by omega) (by omega) (by omega) (by omega))
/-- a position that is being looked at, kk of its moves tried -/
def ND (G : Gm) (e : Nat) (P : Pos) (kk : Nat) (w fi : Int32) (I : Nat → Nat → Int32) : Prop := MF 558 (157 * e) P I ∧ LM e (a_list G P) I ∧ I 555 e = nI kk ∧ I 556 e = w ∧ I 557 e = fi
theorem LM.fw {e : Nat} {L : List (Nat × Nat)} (hl : L.length ≤ 192) {I J : Nat → Nat → Int32} (h : LM e L I) (hf : FW (e + 1) I J) : LM e L J := ⟨by rw [hf _ _ (by decide) (by decide) (by omega) (by omega) (by omega) (by omega)]; exact h.1, fun i hi => by rw [hf _ _ (by decide) (by decide) (by omega) (by omega) (by omega) (by omega), hf _ _ (by decide) (by decide) (by omega) (by omega) (by omega) (by omega)]; exact h.2 i hi⟩
theorem MF.fw {e : Nat} {P : Pos} (hl : PL P) {I J : Nat → Nat → Int32} (h : MF 558 (157 * e) P I) (hf : FW (e + 1) I J) : MF 558 (157 * e) P J := h.tr hl (fun j hj => hf _ _ (by decide) (by decide) (by omega) (by omega) (by omega) (by omega))
theorem ND.fw {G : Gm} (hG : g_ok G) {e kk : Nat} {w fi : Int32} {P : Pos} (hl : PL P) {I J : Nat → Nat → Int32} (h : ND G e P kk w fi I) (hf : FW (e + 1) I J) : ND G e P kk w fi J :=
  ⟨h.1.fw hl hf, h.2.1.fw (a_list_len hG) hf, by rw [hf _ _ (by decide) (by decide) (by omega) (by omega) (by omega) (by omega)]; exact h.2.2.1, by rw [hf _ _ (by decide) (by decide) (by omega) (by omega) (by omega) (by omega)]; exact h.2.2.2.1, by rw [hf _ _ (by decide) (by decide) (by omega) (by omega) (by omega) (by omega)]; exact h.2.2.2.2⟩
/-- .. and what is kept of depth e itself stays -/
def FX (e : Nat) (I J : Nat → Nat → Int32) : Prop := ∀ x j, x ≠ 549 → x ≠ 551 → ¬ (x = 538 ∧ j = 29) → ¬ ((x = 552 ∨ x = 555 ∨ x = 556 ∨ x = 557) ∧ e ≤ j) → ¬ ((x = 553 ∨ x = 554) ∧ 200 * e ≤ j) → ¬ (x = 558 ∧ 157 * (e + 1) ≤ j) → J x j = I x j
theorem FX.refl {e : Nat} {I : Nat → Nat → Int32} : FX e I I := fun _ _ _ _ _ _ _ _ => rfl
theorem FX.trans {e : Nat} {I J K : Nat → Nat → Int32} (h1 : FX e I J) (h2 : FX e J K) : FX e I K := fun x j a b c f g h => (h2 x j a b c f g h).trans (h1 x j a b c f g h)
theorem FW.fx {e : Nat} {I J : Nat → Nat → Int32} (h : FW (e + 1) I J) : FX e I J := fun x j a b c f g i => h x j a b c (by omega) (by omega) (by omega)
theorem FX.fw {e : Nat} {I J : Nat → Nat → Int32} (h : FX e I J) : FW e I J := fun x j a b c f g i => h x j a b c (by omega) (by omega) (by omega)
theorem FX.u {e x j : Nat} {v : Int32} {I : Nat → Nat → Int32} (hx : x = 552 ∨ x = 555 ∨ x = 556 ∨ x = 557) (hj : e ≤ j) : FX e I (pm_up I x j v) := fun y i a b c f g h => up_ne (fun q => f ⟨by omega, by omega⟩)
section MSQ
variable {d k : Nat} {o : Int64}
def SQ (d k : Nat) (o : Int64) (G : Gm) (b D : Nat) : Prop := ∀ (dp : Nat) (P : Pos) (c : Nat) (fi : Int32) (I : Nat → Nat → Int32), dp + D = 10 → c ≤ b → PA (g_n G) P → GM G I → ND G dp P 0 (s_sc P) fi I →
  (t_ok G D P = true ∧ c + t_n G D P ≤ b → ∃ J fi', FX dp I J ∧ ND G dp P (a_list G P).length (t_v G D P).1 fi' J ∧ ((a_list G P).length = 0 → fi' = fi) ∧ (¬ (a_list G P).length = 0 → fi' = (t_v G D P).2) ∧ ∀ q, (pm_R (d + 7) 76 49 [some (.ref 538), some (.int (nI b)), some (.int (nI c)), some (.int (nI dp))] [] (Wm I k o) q ↔ pm_R (d + 7) 76 49 [some (.ref 538), some (.int (nI b)), some (.int (nI (c + t_n G D P))), some (.int (nI dp))] [] (Wm J k o) q)) ∧
  (¬ (t_ok G D P = true ∧ c + t_n G D P ≤ b) → ∃ J, FX dp I J ∧ ∀ q, (pm_R (d + 7) 76 49 [some (.ref 538), some (.int (nI b)), some (.int (nI c)), some (.int (nI dp))] [] (Wm I k o) q ↔ q = (.inl (some (.int 0)), Wm J k o)))
theorem vp_x {a n : Nat} (h : a < n) (h2 : a < 2147483648) : vp_in (nI a) n ↔ True := iff_true_intro ((sm_in h2).mpr h)
theorem c76_k {G : Gm} (hG : g_ok G) {b D dp : Nat} (hb : b ≤ 2000) (hD : dp + (D + 1) = 10) (IH : SQ d k o G b D) {P : Pos} (hP : PA (g_n G) P) : ∀ (ms : List (Nat × Nat)) (kk : Nat) (w fi : Int32) (c : Nat) (I : Nat → Nat → Int32), (a_list G P).drop kk = ms → kk ≤ (a_list G P).length → c ≤ b → GM G I → ND G dp P kk w fi I →
    (ms.all (fun m => t_ok G D (a_make G P m)) = true ∧ c + (ms.length + s_sum (t_n G D) G P ms) ≤ b → ∃ J, FX dp I J ∧ ND G dp P (a_list G P).length (s_kids (fun Q => (t_v G D Q).1) G P ms kk w fi).1 (s_kids (fun Q => (t_v G D Q).1) G P ms kk w fi).2 J ∧ ∀ q, (pm_R (d + 7) 76 49 [some (.ref 538), some (.int (nI b)), some (.int (nI c)), some (.int (nI dp))] [] (Wm I k o) q ↔ pm_R (d + 7) 76 49 [some (.ref 538), some (.int (nI b)), some (.int (nI (c + (ms.length + s_sum (t_n G D) G P ms)))), some (.int (nI dp))] [] (Wm J k o) q)) ∧
    (¬ (ms.all (fun m => t_ok G D (a_make G P m)) = true ∧ c + (ms.length + s_sum (t_n G D) G P ms) ≤ b) → ∃ J, FX dp I J ∧ ∀ q, (pm_R (d + 7) 76 49 [some (.ref 538), some (.int (nI b)), some (.int (nI c)), some (.int (nI dp))] [] (Wm I k o) q ↔ q = (.inl (some (.int 0)), Wm J k o))) := by
  intro ms
  have hlen := a_list_len hG (P := P)
  induction ms with
  | nil =>
    intro kk w fi c I hms hkk hc hR hN
    have hk : (a_list G P).length ≤ kk := List.drop_eq_nil_iff.mp hms
    obtain rfl : kk = (a_list G P).length := by omega
    refine ⟨fun _ => ⟨I, FX.refl, hN, fun q => Iff.rfl⟩, fun h => absurd ⟨rfl, by show c + (0 + 0) ≤ b; omega⟩ h⟩
  | cons m ms ih =>
    intro kk w fi c I hms hkk hc hR hN
    have hk : kk < (a_list G P).length := by
      rcases Nat.lt_or_ge kk (a_list G P).length with h | h
      · exact h
      · rw [List.drop_eq_nil_of_le h] at hms; cases hms
    have hmk : (a_list G P).getD kk (0, 0) = m ∧ (a_list G P).drop (kk + 1) = ms := by
      have e := List.drop_eq_getElem_cons hk
      rw [hms] at e
      injection e with e1 e2
      exact ⟨by rw [List.getD_eq_getElem?_getD, List.getElem?_eq_getElem hk, ← e1]; rfl, e2.symm⟩
    have hmem : m ∈ a_list G P := List.mem_of_mem_drop (by rw [hms]; exact List.mem_cons_self)
    have hmb := a_list_mem hmem
    have hPL := hP.1.pl
    have hd0 : (nI dp < 0) ↔ False := iff_false_intro (sm_neg (by omega))
    have hne : (nI kk = nI (a_list G P).length) ↔ False := iff_false_intro (by rw [sm_inj (by omega) (by omega)]; omega)
    have hcb : (nI c = nI b) ↔ c = b := sm_inj (by omega) (by omega)
    have hd10 : (nI dp = 10) ↔ False := iff_false_intro (by rw [show (10 : Int32) = nI 10 from rfl, sm_inj (by omega) (by omega)]; omega)
    have hlc : (m :: ms).length = ms.length + 1 := rfl
    have hsum : s_sum (t_n G D) G P (m :: ms) = t_n G D (a_make G P m) + s_sum (t_n G D) G P ms := rfl
    by_cases hcb' : c = b
    · refine ⟨fun h => by omega, fun _ => ⟨I, FX.refl, fun q => ?_⟩⟩
      rw [q76_49]
      simp (decide := true) only [q76_50, q76_53, q76_54, q76_57, q76_58, q76_59, q76_60, q76_63, q76_64, q76_65, q76_91, q76_92, q76_93, q76_96, q76_97, q76_99, q76_102, q76_103, W_1, W_I, W_mk, W_tk, pm_rv, rf_0_0, rf_0_1, rf_0_2, rf_0_3, rf_0_4, rf_0_7, rf_0_8, rf_1_0, rf_1_2, rf_3_0, rf_3_1, rf_3_6, rf_3_7, rf_3_8, rf_9_0, rf_9_1, rf_10_0, rf_10_1, rf_10_6, rf_10_7, rf_10_8, rf_17_0, rf_17_1, rf_538_2, rf_538_6, rf_538_7, rf_538_9, rf_538_11, rf_538_12, rf_538_18, rf_538_19, rf_538_22, rf_538_23, rf_538_25, rf_538_27, rf_538_28, rf_538_30, rf_538_31, rf_538_32, rf_538_33, rf_538_34, rf_538_35, rf_538_36, ob_0, ob_1, ob_3, ob_9, ob_10, ob_17, ob_538, ar_2, ar_4, ar_5, ar_6, ar_7, ar_8, ar_11, ar_12, ar_13, ar_14, ar_15, ar_16, ar_116, ar_117, ar_539, ar_540, ar_541, ar_542, ar_543, ar_544, ar_545, ar_546, ar_547, ar_548, ar_549, ar_550, ar_551, ar_552, ar_553, ar_554, ar_555, ar_556, ar_557, ar_558, ex_eq, ex_ite, pm_bk_r, pm_bk_t, ol_nil, ol_one, true_and, and_true, false_and, and_false, reduceIte, Nat.reduceEqDiff, up_at, Nat.add_left_cancel_iff, hd0, sm_in (show dp < 2147483648 by omega), show dp < 11 by omega, sm_cl (show dp < 2147483648 by omega), hN.2.2.1, hN.2.1.1, hne, hcb, hcb']
    · -- back, make
      obtain ⟨I1, hI1⟩ : ∃ I1, I1 = pm_cpy I 558 (157 * dp) 549 0 157 := ⟨_, rfl⟩
      have f1 : FW (dp + 1) I I1 := by rw [hI1]; exact FW.back
      have m1 : MF 549 0 P I1 := by rw [hI1]; exact hN.1.cp hPL
      have N1 := hN.fw hG hPL f1
      obtain ⟨I2, g1, g2, g3, g4, g5⟩ := c61 (d := d) (k := k) (o := o) hG hmb.1 hmb.2 (hR.fw f1) m1.1 m1.2 hP
      have f2 : FW (dp + 1) I I2 := f1.trans g4.fw
      have N2 := hN.fw hG hPL f2
      obtain ⟨I3, hI3⟩ : ∃ I3, I3 = pm_up I2 555 dp (nI (kk + 1)) := ⟨_, rfl⟩
      have f3 : FX dp I I3 := f2.fx.trans (by rw [hI3]; exact FX.u (by omega) (Nat.le_refl _))
      have N3 : ND G dp P (kk + 1) w fi I3 := by
        rw [hI3]
        refine ⟨N2.1.tr hPL (fun j _ => up_ne (by omega)), ⟨by rw [up_ne (by omega)]; exact N2.2.1.1, fun i hi => by rw [up_ne (by omega), up_ne (by omega)]; exact N2.2.1.2 i hi⟩, up_eq, by rw [up_ne (by omega)]; exact N2.2.2.2.1, by rw [up_ne (by omega)]; exact N2.2.2.2.2⟩
      have e549 : I3 549 = I2 549 := by rw [hI3]; exact up_row (by decide)
      obtain ⟨I4, l1, l2, l3⟩ := c59 (d := d) (k := k) (o := o) (e := dp + 1) hG g3 (by omega) (hR.fw f3.fw) (g1.congr e549) (by rw [e549]; exact g2)
      have f4 : FW (dp + 1) I3 I4 := l2.fw
      obtain ⟨I5, hI5⟩ : ∃ I5, I5 = pm_cpy I4 549 0 558 (157 * (dp + 1)) 157 := ⟨_, rfl⟩
      have f5 : FW (dp + 1) I3 I5 := f4.trans (by rw [hI5]; exact FW.keep)
      have hPL' := g3.1.pl
      have e5s : ∀ x j, x ≠ 558 → I5 x j = I4 x j := fun x j hx => by rw [hI5, cp_ne hx]
      obtain ⟨I6, hI6⟩ : ∃ I6, I6 = pm_up (pm_up I5 555 (dp + 1) 0) 556 (dp + 1) (s_sc (a_make G P m)) := ⟨_, rfl⟩
      have f6 : FW (dp + 1) I3 I6 := f5.trans (by rw [hI6]; exact (FW.u (by omega) (Nat.le_refl _)).trans (FW.u (by omega) (Nat.le_refl _)))
      have N6 : ND G (dp + 1) (a_make G P m) 0 (s_sc (a_make G P m)) (I6 557 (dp + 1)) I6 := by
        have m5 : MF 558 (157 * (dp + 1)) (a_make G P m) I5 := by rw [hI5]; exact MF.cp ⟨l1.2.1, l1.2.2.1⟩ hPL'
        refine ⟨m5.tr hPL' (fun j _ => by rw [hI6, up_ne (by omega), up_ne (by omega)]), ⟨?_, fun i hi => ?_⟩, ?_, ?_, rfl⟩
        · rw [hI6, up_ne (by omega), up_ne (by omega), e5s _ _ (by decide)]; exact l1.2.2.2.1
        · rw [hI6, up_ne (by omega), up_ne (by omega), up_ne (by omega), up_ne (by omega), e5s _ _ (by decide), e5s _ _ (by decide)]; exact l1.2.2.2.2 i hi
        · rw [hI6, up_ne (by omega), up_eq]; rfl
        · rw [hI6, up_eq]
      have R6 : GM G I6 := (hR.fw f3.fw).fw f6
      have N6' : ND G dp P (kk + 1) w fi I6 := N3.fw hG hPL f6
      have e200 : (200 : Int32) * nI dp + nI kk = nI (200 * dp + kk) := by rw [show (200 : Int32) = nI 200 from rfl, sm_mul, sm_add]
      have hby := N1.2.1.2 kk hk
      rw [hmk.1] at hby
      have h10 : I5 549 10 = (a_make G P m).2.2.1 0 := by rw [e5s _ _ (by decide)]; exact l1.2.1.sco (j := 0) (by decide)
      have h11 : I5 549 11 = (a_make G P m).2.2.1 1 := by rw [e5s _ _ (by decide)]; exact l1.2.1.sco (j := 1) (by decide)
      have hopen : ∀ q, (pm_R (d + 7) 76 49 [some (.ref 538), some (.int (nI b)), some (.int (nI c)), some (.int (nI dp))] [] (Wm I k o) q ↔ pm_R (d + 7) 76 49 [some (.ref 538), some (.int (nI b)), some (.int (nI (c + 1))), some (.int (nI (dp + 1)))] [] (Wm I6 k o) q) := by
        intro q
        rw [q76_49]
        simp (decide := true) only [q76_50, q76_53, q76_54, q76_57, q76_58, q76_59, q76_60, q76_63, q76_64, q76_65, q76_91, q76_92, q76_93, q76_96, q76_97, q76_99, q76_102, q76_103, q76_104, q76_105, q76_106, q76_109, q76_110, q76_111, q76_114, q76_117, q76_118, q76_119, q76_120, q76_123, q76_124, q76_125, q76_126, q76_127, q76_128, q76_131, q76_134, q76_135, q76_136, q76_137, q76_140, q76_141, q76_142, q76_143, q76_144, q76_147, q76_148, q76_151, q76_152, q76_153, q76_154, q76_155, q76_156, q76_157, q76_160, q76_163, q76_164, q76_165, q76_168, q76_169, q76_170, q76_173, q76_174, q76_177, q76_178, q76_179, q76_180, q76_181, q76_184, q76_185, q76_186, q76_189, q76_191, q76_192, q76_193, q76_196, q76_198, q76_199, q76_200, q76_201, W_1, W_I, W_mk, W_tk, pm_rv, rf_0_0, rf_0_1, rf_0_2, rf_0_3, rf_0_4, rf_0_7, rf_0_8, rf_1_0, rf_1_2, rf_3_0, rf_3_1, rf_3_6, rf_3_7, rf_3_8, rf_9_0, rf_9_1, rf_10_0, rf_10_1, rf_10_6, rf_10_7, rf_10_8, rf_17_0, rf_17_1, rf_538_2, rf_538_6, rf_538_7, rf_538_9, rf_538_11, rf_538_12, rf_538_18, rf_538_19, rf_538_22, rf_538_23, rf_538_25, rf_538_27, rf_538_28, rf_538_30, rf_538_31, rf_538_32, rf_538_33, rf_538_34, rf_538_35, rf_538_36, ob_0, ob_1, ob_3, ob_9, ob_10, ob_17, ob_538, ar_2, ar_4, ar_5, ar_6, ar_7, ar_8, ar_11, ar_12, ar_13, ar_14, ar_15, ar_16, ar_116, ar_117, ar_539, ar_540, ar_541, ar_542, ar_543, ar_544, ar_545, ar_546, ar_547, ar_548, ar_549, ar_550, ar_551, ar_552, ar_553, ar_554, ar_555, ar_556, ar_557, ar_558, ex_eq, ex_ite, pm_bk_r, pm_bk_t, ol_nil, ol_one, true_and, and_true, false_and, and_false, reduceIte, Nat.reduceEqDiff, up_at, Nat.add_left_cancel_iff, hd0, sm_in (show dp < 2147483648 by omega), show dp < 11 by omega, sm_cl (show dp < 2147483648 by omega), hN.2.2.1, hN.2.1.1, hne, hcb, hcb', hd10, c74 (d := d + 6) (show dp < 11 by omega), hI1.symm, N1.2.2.1, e200, sm_in (show 200 * dp + kk < 2147483648 by omega), show 200 * dp + kk < 2200 by omega, sm_cl (show 200 * dp + kk < 2147483648 by omega), hby.1, hby.2, g5, N2.2.2.1, sm_s, hI3.symm, l3, c73 (d := d + 6) (show dp + 1 < 11 by omega), hI5.symm, sm_in (show dp + 1 < 2147483648 by omega), show dp + 1 < 11 by omega, sm_cl (show dp + 1 < 2147483648 by omega), show vp_in (10 : Int32) 157 ↔ True from vp_x (a := 10) (by omega) (by omega), show vp_in (11 : Int32) 157 ↔ True from vp_x (a := 11) (by omega) (by omega), kc10, show (11 : Int32).toNatClampNeg = 11 from by decide, h10, h11]
        rw [hI6]
        exact Iff.rfl
      have hIH := IH (dp + 1) (a_make G P m) (c + 1) _ I6 (by omega) (by omega) g3 R6 N6
      by_cases hcc : t_ok G D (a_make G P m) = true ∧ c + 1 + t_n G D (a_make G P m) ≤ b
      · obtain ⟨I7, fi7, a1, a2, -, -, a5⟩ := hIH.1 hcc
        have N7 : ND G dp P (kk + 1) w fi I7 := N6'.fw hG hPL a1.fw
        have R7 : GM G I7 := R6.fw a1.fw
        have hlen2 := a_list_len hG (P := a_make G P m)
        obtain ⟨I8, hI8⟩ : ∃ I8, I8 = pm_up (pm_up I7 557 dp (if kk = 0 ∨ s_bet P (t_v G D (a_make G P m)).1 w = true then nI kk else fi)) 556 dp (if kk = 0 ∨ s_bet P (t_v G D (a_make G P m)).1 w = true then (t_v G D (a_make G P m)).1 else w) := ⟨_, rfl⟩
        have f8 : FX dp I7 I8 := by rw [hI8]; exact (FX.u (by omega) (Nat.le_refl _)).trans (FX.u (by omega) (Nat.le_refl _))
        have N8 : ND G dp P (kk + 1) (if kk = 0 ∨ s_bet P (t_v G D (a_make G P m)).1 w = true then (t_v G D (a_make G P m)).1 else w) (if kk = 0 ∨ s_bet P (t_v G D (a_make G P m)).1 w = true then nI kk else fi) I8 := by
          rw [hI8]
          refine ⟨N7.1.tr hPL (fun j _ => by rw [up_ne (by omega), up_ne (by omega)]), ⟨by rw [up_ne (by omega), up_ne (by omega)]; exact N7.2.1.1, fun i hi => by rw [up_ne (by omega), up_ne (by omega), up_ne (by omega), up_ne (by omega)]; exact N7.2.1.2 i hi⟩, by rw [up_ne (by omega), up_ne (by omega)]; exact N7.2.2.1, up_eq, by rw [up_ne (by omega), up_eq]⟩
        have hgo : ∀ q, (pm_R (d + 7) 76 49 [some (.ref 538), some (.int (nI b)), some (.int (nI c)), some (.int (nI dp))] [] (Wm I k o) q ↔ pm_R (d + 7) 76 49 [some (.ref 538), some (.int (nI b)), some (.int (nI (c + 1 + t_n G D (a_make G P m)))), some (.int (nI dp))] [] (Wm I8 k o) q) := by
          intro q
          rw [hopen, a5, q76_49]
          have hd1 : (nI (dp + 1) < 0) ↔ False := iff_false_intro (sm_neg (by omega))
          have em : nI (dp + 1) + (-1) = nI dp := by rw [show (-1 : Int32) = -(nI 1) from rfl, ← Int32.sub_eq_add_neg, sm_sub (by omega)]; rfl
          have h75 : ∀ q, (pm_C (d + 6 + 1) 75 [.ref 538, .int (nI dp), .int (t_v G D (a_make G P m)).1] (Wm I7 k o) q ↔ q = (.inl none, Wm I8 k o)) := by
            intro q
            have h75 := c75 (d := d + 6) (k := k) (o := o) (I := I7) (q := q) (e := dp) (kk := kk) (t := P.2.2.2) (v := (t_v G D (a_make G P m)).1) (by omega) (by omega) N7.2.2.1 N7.1.2 hP.2.2.2 (P := P) rfl
            rw [N7.2.2.2.1, N7.2.2.2.2, ← hI8] at h75
            exact h75
          simp (decide := true) only [q76_50, q76_53, q76_54, q76_57, q76_58, q76_59, q76_60, q76_63, q76_64, q76_65, q76_68, q76_71, q76_72, q76_75, q76_76, q76_77, q76_78, q76_81, q76_82, q76_83, q76_84, q76_85, q76_88, W_1, W_I, W_mk, W_tk, pm_rv, rf_0_0, rf_0_1, rf_0_2, rf_0_3, rf_0_4, rf_0_7, rf_0_8, rf_1_0, rf_1_2, rf_3_0, rf_3_1, rf_3_6, rf_3_7, rf_3_8, rf_9_0, rf_9_1, rf_10_0, rf_10_1, rf_10_6, rf_10_7, rf_10_8, rf_17_0, rf_17_1, rf_538_2, rf_538_6, rf_538_7, rf_538_9, rf_538_11, rf_538_12, rf_538_18, rf_538_19, rf_538_22, rf_538_23, rf_538_25, rf_538_27, rf_538_28, rf_538_30, rf_538_31, rf_538_32, rf_538_33, rf_538_34, rf_538_35, rf_538_36, ob_0, ob_1, ob_3, ob_9, ob_10, ob_17, ob_538, ar_2, ar_4, ar_5, ar_6, ar_7, ar_8, ar_11, ar_12, ar_13, ar_14, ar_15, ar_16, ar_116, ar_117, ar_539, ar_540, ar_541, ar_542, ar_543, ar_544, ar_545, ar_546, ar_547, ar_548, ar_549, ar_550, ar_551, ar_552, ar_553, ar_554, ar_555, ar_556, ar_557, ar_558, ex_eq, ex_ite, pm_bk_r, pm_bk_t, ol_nil, ol_one, true_and, and_true, false_and, and_false, reduceIte, Nat.reduceEqDiff, up_at, Nat.add_left_cancel_iff, hd1, sm_in (show dp + 1 < 2147483648 by omega), show dp + 1 < 11 by omega, sm_cl (show dp + 1 < 2147483648 by omega), a2.2.2.1, a2.2.1.1, a2.2.2.2.1, em, hd0, sm_s, h75]
        have hr := ih (kk + 1) _ _ (c + 1 + t_n G D (a_make G P m)) I8 hmk.2 (by omega) hcc.2 (R7.fw f8.fw) N8
        have fa : FX dp I I8 := ((f3.trans f6.fx).trans a1.fw.fx).trans f8
        have hkid : s_kids (fun Q => (t_v G D Q).1) G P (m :: ms) kk w fi = s_kids (fun Q => (t_v G D Q).1) G P ms (kk + 1) (if kk = 0 ∨ s_bet P (t_v G D (a_make G P m)).1 w = true then (t_v G D (a_make G P m)).1 else w) (if kk = 0 ∨ s_bet P (t_v G D (a_make G P m)).1 w = true then nI kk else fi) := by
          show (if kk = 0 ∨ s_bet P (t_v G D (a_make G P m)).1 w = true then _ else _) = _
          split <;> rfl
        have hall : (m :: ms).all (fun m => t_ok G D (a_make G P m)) = ms.all (fun m => t_ok G D (a_make G P m)) := by
          rw [List.all_cons, hcc.1, Bool.true_and]
        rw [hkid, hall]
        refine ⟨fun hh => ?_, fun hh => ?_⟩
        · obtain ⟨K, b1, b2, b3⟩ := hr.1 ⟨hh.1, by omega⟩
          refine ⟨K, fa.trans b1, b2, fun q => ?_⟩
          rw [hgo, b3]
          rw [show c + 1 + t_n G D (a_make G P m) + (ms.length + s_sum (t_n G D) G P ms) = c + ((m :: ms).length + s_sum (t_n G D) G P (m :: ms)) by omega]
        · obtain ⟨K, b1, b2⟩ := hr.2 (fun q => hh ⟨q.1, by omega⟩)
          exact ⟨K, fa.trans b1, fun q => (hgo q).trans (b2 q)⟩
      · obtain ⟨J, a1, a2⟩ := hIH.2 hcc
        refine ⟨fun hh => absurd ?_ hcc, fun _ => ⟨J, (f3.trans f6.fx).trans a1.fw.fx, fun q => (hopen q).trans (a2 q)⟩⟩
        have h1 := hh.1
        rw [List.all_cons, Bool.and_eq_true] at h1
        exact ⟨h1.1, by omega⟩
theorem s_kids0 {f : Pos → Int32} {G : Gm} {P : Pos} {L : List (Nat × Nat)} (h : ¬ L.length = 0) {w fi w' fi' : Int32} : s_kids f G P L 0 w fi = s_kids f G P L 0 w' fi' := by
  cases L with
  | nil => exact absurd rfl h
  | cons m ms =>
    show (if 0 = 0 ∨ _ then _ else _) = (if 0 = 0 ∨ _ then _ else _)
    rw [if_pos (Or.inl rfl), if_pos (Or.inl rfl)]
theorem c76_D {G : Gm} (hG : g_ok G) {b : Nat} (hb : b ≤ 2000) : ∀ D, SQ d k o G b D := by
  intro D
  induction D with
  | zero =>
    intro dp P c fi I hD hc hP hR hN
    have hlen := a_list_len hG (P := P)
    obtain rfl : dp = 10 := by omega
    refine ⟨fun hh => ?_, fun hh => ?_⟩
    · have h0 : (a_list G P).length = 0 := of_decide_eq_true hh.1
      have hn : t_n G 0 P = 0 := h0
      rw [hn, h0]
      exact ⟨I, fi, FX.refl, hN, fun _ => rfl, fun h => absurd rfl h, fun q => Iff.rfl⟩
    · have h0 : ¬ (a_list G P).length = 0 := fun q => hh ⟨decide_eq_true q, by show c + (a_list G P).length ≤ b; omega⟩
      refine ⟨I, FX.refl, fun q => ?_⟩
      have hne : (nI 0 = nI (a_list G P).length) ↔ False := iff_false_intro (by rw [sm_inj (by omega) (by omega)]; omega)
      rw [q76_49]
      simp (decide := true) only [q76_50, q76_53, q76_54, q76_57, q76_58, q76_59, q76_60, q76_63, q76_64, q76_65, q76_91, q76_92, q76_93, q76_96, q76_97, q76_99, q76_102, q76_103, W_1, W_I, W_mk, W_tk, pm_rv, rf_0_0, rf_0_1, rf_0_2, rf_0_3, rf_0_4, rf_0_7, rf_0_8, rf_1_0, rf_1_2, rf_3_0, rf_3_1, rf_3_6, rf_3_7, rf_3_8, rf_9_0, rf_9_1, rf_10_0, rf_10_1, rf_10_6, rf_10_7, rf_10_8, rf_17_0, rf_17_1, rf_538_2, rf_538_6, rf_538_7, rf_538_9, rf_538_11, rf_538_12, rf_538_18, rf_538_19, rf_538_22, rf_538_23, rf_538_25, rf_538_27, rf_538_28, rf_538_30, rf_538_31, rf_538_32, rf_538_33, rf_538_34, rf_538_35, rf_538_36, ob_0, ob_1, ob_3, ob_9, ob_10, ob_17, ob_538, ar_2, ar_4, ar_5, ar_6, ar_7, ar_8, ar_11, ar_12, ar_13, ar_14, ar_15, ar_16, ar_116, ar_117, ar_539, ar_540, ar_541, ar_542, ar_543, ar_544, ar_545, ar_546, ar_547, ar_548, ar_549, ar_550, ar_551, ar_552, ar_553, ar_554, ar_555, ar_556, ar_557, ar_558, ex_eq, ex_ite, pm_bk_r, pm_bk_t, ol_nil, ol_one, true_and, and_true, false_and, and_false, reduceIte, Nat.reduceEqDiff, up_at, Nat.add_left_cancel_iff, sm_in (show 10 < 2147483648 by omega), sm_cl (show 10 < 2147483648 by omega), hN.2.2.1, hN.2.1.1, hne, ite_same]
  | succ D IH =>
    intro dp P c fi I hD hc hP hR hN
    have hr := c76_k hG hb hD IH hP (a_list G P) 0 (s_sc P) fi c I rfl (Nat.zero_le _) hc hR hN
    have hok : t_ok G (D + 1) P = (a_list G P).all (fun m => t_ok G D (a_make G P m)) := rfl
    have hn0 : t_n G (D + 1) P = (a_list G P).length + s_sum (t_n G D) G P (a_list G P) := rfl
    rw [hok, hn0]
    refine ⟨fun hh => ?_, hr.2⟩
    by_cases h0 : (a_list G P).length = 0
    · have hnil : a_list G P = [] := List.eq_nil_of_length_eq_zero h0
      have hv : t_v G (D + 1) P = (s_sc P, -1) := if_pos h0
      rw [hv]
      refine ⟨I, fi, FX.refl, by rw [h0]; exact hN, fun _ => rfl, fun h => absurd h0 h, fun q => ?_⟩
      rw [hnil]
      exact Iff.rfl
    · have hv : t_v G (D + 1) P = s_kids (fun Q => (t_v G D Q).1) G P (a_list G P) 0 0 (-1) := if_neg h0
      obtain ⟨J, a1, a2, a3⟩ := hr.1 hh
      rw [s_kids0 h0 (w' := 0) (fi' := -1), ← hv] at a2
      exact ⟨J, _, a1, a2, fun h => absurd h h0, fun _ => rfl, a3⟩
/-- the whole search: cells 549, 551, 538/29 and 552 .. 558 alone change -/
theorem c76 {G : Gm} (hG : g_ok G) {P : Pos} (hP : PA (g_n G) P) {b : Nat} (h1 : 1 ≤ b) (hb : b ≤ 2000) {I : Nat → Nat → Int32} (hR : GM G I) (h : MF 549 0 P I) :
    (t_ok G 10 P = true ∧ t_n G 10 P < b → ∃ J, FW 0 I J ∧ MF 558 0 P J ∧ J 556 0 = (t_v G 10 P).1 ∧ J 557 0 = (t_v G 10 P).2 ∧ ∀ q, (pm_C (d + 8) 76 [.ref 538, .int (nI b)] (Wm I k o) q ↔ q = (.inl (some (.int 1)), Wm J k o))) ∧
    (¬ (t_ok G 10 P = true ∧ t_n G 10 P < b) → ∃ J, FW 0 I J ∧ MF 558 0 P J ∧ ∀ q, (pm_C (d + 8) 76 [.ref 538, .int (nI b)] (Wm I k o) q ↔ q = (.inl (some (.int 0)), Wm J k o))) := by
  have hlen := a_list_len hG (P := P)
  have hPL := hP.1.pl
  obtain ⟨I1, l1, l2, l3⟩ := c59 (d := d) (k := k) (o := o) (e := 0) hG hP (by omega) hR h.1 h.2
  obtain ⟨I2, hI2⟩ : ∃ I2, I2 = pm_cpy I1 549 0 558 0 157 := ⟨_, rfl⟩
  have e2 : ∀ x j, x ≠ 558 → I2 x j = I1 x j := fun x j hx => by rw [hI2, cp_ne hx]
  have m2 : MF 558 0 P I2 := by rw [hI2]; exact MF.cp ⟨l1.2.1, l1.2.2.1⟩ hPL
  obtain ⟨I3, hI3⟩ : ∃ I3, I3 = pm_up (pm_up (pm_up I2 555 0 0) 556 0 (s_sc P)) 557 0 (-1) := ⟨_, rfl⟩
  have f2 : FW 0 I1 I2 := by rw [hI2]; exact FW.keep (e := 0)
  have f3 : FW 0 I I3 := (l2.fw.trans f2).trans (by rw [hI3]; exact ((FW.u (by omega) (Nat.le_refl _)).trans (FW.u (by omega) (Nat.le_refl _))).trans (FW.u (by omega) (Nat.le_refl _)))
  have N3 : ND G 0 P 0 (s_sc P) (-1) I3 := by
    refine ⟨m2.tr hPL (fun j _ => by rw [hI3, up_ne (by omega), up_ne (by omega), up_ne (by omega)]), ⟨?_, fun i hi => ?_⟩, ?_, ?_, ?_⟩
    · rw [hI3, up_ne (by omega), up_ne (by omega), up_ne (by omega), e2 _ _ (by decide)]; exact l1.2.2.2.1
    · rw [hI3, up_ne (by omega), up_ne (by omega), up_ne (by omega), up_ne (by omega), up_ne (by omega), up_ne (by omega), e2 _ _ (by decide), e2 _ _ (by decide)]; exact l1.2.2.2.2 i hi
    · rw [hI3, up_ne (by omega), up_ne (by omega), up_eq]; rfl
    · rw [hI3, up_ne (by omega), up_eq]
    · rw [hI3, up_eq]
  have h10 : I2 549 10 = P.2.2.1 0 := by rw [e2 _ _ (by decide)]; exact l1.2.1.sco (j := 0) (by decide)
  have h11 : I2 549 11 = P.2.2.1 1 := by rw [e2 _ _ (by decide)]; exact l1.2.1.sco (j := 1) (by decide)
  have h73 : ∀ q, (pm_C (d + 6 + 1) 73 [.ref 538, .int 0] (Wm I1 k o) q ↔ q = (.inl none, Wm I2 k o)) := fun q => by rw [hI2]; exact c73 (e := 0) (by omega)
  have h59 : ∀ q, (pm_C (d + 7) 59 [.ref 538, .int 0] (Wm I k o) q ↔ q = (.inl none, Wm I1 k o)) := l3
  have hopen : ∀ q, (pm_C (d + 8) 76 [.ref 538, .int (nI b)] (Wm I k o) q ↔ pm_R (d + 7) 76 49 [some (.ref 538), some (.int (nI b)), some (.int (nI 1)), some (.int (nI 0))] [] (Wm I3 k o) q) := by
    intro q
    rw [n76]
    simp (decide := true) only [q76_0, q76_1, q76_2, q76_3, q76_4, q76_5, q76_6, q76_9, q76_10, q76_11, q76_14, q76_15, q76_18, q76_19, q76_20, q76_21, q76_22, q76_25, q76_26, q76_27, q76_30, q76_32, q76_33, q76_34, q76_37, q76_39, q76_40, q76_41, q76_42, q76_43, q76_46, q76_47, q76_48, W_1, W_I, W_mk, W_tk, pm_rv, rf_0_0, rf_0_1, rf_0_2, rf_0_3, rf_0_4, rf_0_7, rf_0_8, rf_1_0, rf_1_2, rf_3_0, rf_3_1, rf_3_6, rf_3_7, rf_3_8, rf_9_0, rf_9_1, rf_10_0, rf_10_1, rf_10_6, rf_10_7, rf_10_8, rf_17_0, rf_17_1, rf_538_2, rf_538_6, rf_538_7, rf_538_9, rf_538_11, rf_538_12, rf_538_18, rf_538_19, rf_538_22, rf_538_23, rf_538_25, rf_538_27, rf_538_28, rf_538_30, rf_538_31, rf_538_32, rf_538_33, rf_538_34, rf_538_35, rf_538_36, ob_0, ob_1, ob_3, ob_9, ob_10, ob_17, ob_538, ar_2, ar_4, ar_5, ar_6, ar_7, ar_8, ar_11, ar_12, ar_13, ar_14, ar_15, ar_16, ar_116, ar_117, ar_539, ar_540, ar_541, ar_542, ar_543, ar_544, ar_545, ar_546, ar_547, ar_548, ar_549, ar_550, ar_551, ar_552, ar_553, ar_554, ar_555, ar_556, ar_557, ar_558, ex_eq, ex_ite, pm_bk_r, pm_bk_t, ol_nil, ol_one, true_and, and_true, false_and, and_false, reduceIte, Nat.reduceEqDiff, up_at, Nat.add_left_cancel_iff, h59, h73, vp_0, kc0, show vp_in (10 : Int32) 157 ↔ True from vp_x (a := 10) (by omega) (by omega), show vp_in (11 : Int32) 157 ↔ True from vp_x (a := 11) (by omega) (by omega), kc10, show (11 : Int32).toNatClampNeg = 11 from by decide, h10, h11]
    rw [hI3]
    exact Iff.rfl
  have hm : ∀ J, FX 0 I3 J → MF 558 0 P J := fun J hJ => N3.1.tr hPL (fun j hj => hJ _ _ (by decide) (by decide) (by omega) (by omega) (by omega) (by omega))
  have hr := c76_D (d := d) (k := k) (o := o) hG hb 10 0 P 1 (-1) I3 (by omega) h1 hP (hR.fw f3) N3
  refine ⟨fun hh => ?_, fun hh => ?_⟩
  · obtain ⟨J, fi', a1, a2, a3, a4, a5⟩ := hr.1 ⟨hh.1, by omega⟩
    have hfi : fi' = (t_v G 10 P).2 := by
      by_cases h0 : (a_list G P).length = 0
      · rw [a3 h0]
        show _ = (if (a_list G P).length = 0 then (s_sc P, (-1 : Int32)) else _).2
        rw [if_pos h0]
      · exact a4 h0
    refine ⟨J, f3.trans a1.fw, hm J a1, a2.2.2.2.1, by rw [a2.2.2.2.2, hfi], fun q => ?_⟩
    rw [hopen, a5, q76_49]
    simp (decide := true) only [q76_50, q76_53, q76_54, q76_57, q76_58, q76_59, q76_60, q76_63, q76_64, q76_65, q76_68, q76_71, q76_72, W_1, W_I, W_mk, W_tk, pm_rv, rf_0_0, rf_0_1, rf_0_2, rf_0_3, rf_0_4, rf_0_7, rf_0_8, rf_1_0, rf_1_2, rf_3_0, rf_3_1, rf_3_6, rf_3_7, rf_3_8, rf_9_0, rf_9_1, rf_10_0, rf_10_1, rf_10_6, rf_10_7, rf_10_8, rf_17_0, rf_17_1, rf_538_2, rf_538_6, rf_538_7, rf_538_9, rf_538_11, rf_538_12, rf_538_18, rf_538_19, rf_538_22, rf_538_23, rf_538_25, rf_538_27, rf_538_28, rf_538_30, rf_538_31, rf_538_32, rf_538_33, rf_538_34, rf_538_35, rf_538_36, ob_0, ob_1, ob_3, ob_9, ob_10, ob_17, ob_538, ar_2, ar_4, ar_5, ar_6, ar_7, ar_8, ar_11, ar_12, ar_13, ar_14, ar_15, ar_16, ar_116, ar_117, ar_539, ar_540, ar_541, ar_542, ar_543, ar_544, ar_545, ar_546, ar_547, ar_548, ar_549, ar_550, ar_551, ar_552, ar_553, ar_554, ar_555, ar_556, ar_557, ar_558, ex_eq, ex_ite, pm_bk_r, pm_bk_t, ol_nil, ol_one, true_and, and_true, false_and, and_false, reduceIte, Nat.reduceEqDiff, up_at, Nat.add_left_cancel_iff, sm_in (show 0 < 2147483648 by omega), sm_cl (show 0 < 2147483648 by omega), a2.2.2.1, a2.2.1.1]
    rw [q76_49]
    simp (decide := true) only [q76_50, q76_204, q76_205, ex_eq, ex_ite, pm_bk_r, pm_bk_t, ol_nil, ol_one, true_and, and_true, false_and, and_false, reduceIte, Nat.reduceEqDiff, up_at, Nat.add_left_cancel_iff]
  · obtain ⟨J, a1, a2⟩ := hr.2 (fun q => hh ⟨q.1, by omega⟩)
    exact ⟨J, f3.trans a1.fw, hm J a1, fun q => (hopen q).trans (a2 q)⟩
end MSQ
