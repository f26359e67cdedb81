/-! THE REFERENCE: run, behind, list, make -/
def SM (S : List Int32) (I : Nat → Nat → Int32) : Prop := ∀ j, j < S.length → I 551 j = S.reverse.getD j 0
def FM (I J : Nat → Nat → Int32) : Prop := ∀ x j, x ≠ 549 → x ≠ 551 → ¬ (x = 538 ∧ j = 29) → J x j = I x j
theorem FM.refl {I : Nat → Nat → Int32} : FM I I := fun _ _ _ _ _ => rfl
theorem FM.trans {I J K : Nat → Nat → Int32} (h1 : FM I J) (h2 : FM J K) : FM I K := fun x j a b c => (h2 x j a b c).trans (h1 x j a b c)
theorem FM.u551 {I : Nat → Nat → Int32} {i : Nat} {v : Int32} : FM I (pm_up I 551 i v) := fun x j _ h _ => up_ne (fun q => h q.1)
theorem FM.u549 {I : Nat → Nat → Int32} {i : Nat} {v : Int32} : FM I (pm_up I 549 i v) := fun x j h _ _ => up_ne (fun q => h q.1)
theorem SM.push {S : List Int32} {x : Int32} {I : Nat → Nat → Int32} (h : SM S I) : SM (x :: S) (pm_up I 551 S.length x) := by
  intro j hj
  rw [List.reverse_cons]
  by_cases e : j = S.length
  · subst e
    rw [up_eq, List.getD_eq_getElem?_getD, List.getElem?_append_right (by simp)]
    simp
  · have hj' : j < S.length := by simp at hj; omega
    rw [up_ne (fun q => e q.2), h j hj', List.getD_eq_getElem?_getD, List.getD_eq_getElem?_getD, List.getElem?_append_left (by simpa using hj')]
theorem SM.pop {S : List Int32} {x : Int32} {I : Nat → Nat → Int32} (h : SM (x :: S) I) : SM S I ∧ I 551 S.length = x := by
  refine ⟨fun j hj => ?_, ?_⟩
  · rw [h j (by simp; omega), List.reverse_cons, List.getD_eq_getElem?_getD, List.getD_eq_getElem?_getD, List.getElem?_append_left (by simpa using hj)]
  · rw [h S.length (by simp), List.reverse_cons, List.getD_eq_getElem?_getD, List.getElem?_append_right (by simp)]
    simp
theorem SM.fr {S : List Int32} {I J : Nat → Nat → Int32} (h : SM S I) (e : J 551 = I 551) : SM S J := by unfold SM; rw [e]; exact h
def CM (C : List (Nat × Nat)) (I : Nat → Nat → Int32) : Prop := C.length ≤ 160 ∧ ∀ j, j < C.length → I 547 j = nI (C.getD j (0, 0)).1 ∧ I 548 j = nI (C.getD j (0, 0)).2
theorem CM.fm {C : List (Nat × Nat)} {I J : Nat → Nat → Int32} (h : CM C I) (hf : FM I J) : CM C J := ⟨h.1, fun j hj => by rw [hf _ _ (by decide) (by decide) (by omega), hf _ _ (by decide) (by decide) (by omega)]; exact h.2 j hj⟩
section MRN
variable {d k : Nat} {o : Int64}
theorem c56_s {I : Nat → Nat → Int32} {P : Pos} {N rk s z a h' : Nat} {c : Int32} {S : List Int32} {L : List (Nat × Nat)} {y1 y5 y8 : Option Value} (h : MP 549 0 P I) (hP : PA N P) (hS : SM S I) (hrk : I 538 16 = nI rk) (hr1 : 1 ≤ rk) (hr6 : rk ≤ 6) (hs : s < 2) (hc : CH N c) (hl : S.length < 250) (hty : a_ty ((z, a) :: L) S.length = some h') :
    ∃ J z8, MP 549 0 (a_step rk s c z a S P).2 J ∧ SM (a_step rk s c z a S P).1 J ∧ PA N (a_step rk s c z a S P).2 ∧ FM I J ∧ J 549 12 = I 549 12 ∧ J 538 29 = (if z = 16 then 1 else I 538 29) ∧ a_ty L (a_step rk s c z a S P).1.length = some h' ∧ (a_step rk s c z a S P).1.length ≤ S.length + 1 ∧
      ∀ r, (pm_R (d + 5) 56 43 [some (.ref 538), y1, some (.int (nI s)), some (.int c), some (.int (nI S.length)), y5, some (.int (nI z)), some (.int (nI a)), y8] [] (Wm I k o) r ↔ pm_R (d + 5) 56 275 [some (.ref 538), y1, some (.int (nI s)), some (.int c), some (.int (nI (a_step rk s c z a S P).1.length)), y5, some (.int (nI z)), some (.int (nI a)), z8] [] (Wm J k o) r) := by
  obtain ⟨hz, ha, hcase⟩ := a_ty_op hty
  clear hty
  have h5 : ∀ n : Nat, n < 2147483648 → ((nI z < nI n) ↔ z < n) := fun n hn => sm_lt (by omega) hn
  have hE : ∀ n : Nat, n < 2147483648 → ((nI z = nI n) ↔ z = n) := fun n hn => sm_inj (by omega) hn
  have hPL := hP.1.pl
  have q5 : (nI z < 5) ↔ z < 5 := h5 5 (by omega)
  have q12 : (nI z < 12) ↔ z < 12 := h5 12 (by omega)
  have e12 : (nI z = 12) ↔ z = 12 := hE 12 (by omega)
  have e13 : (nI z = 13) ↔ z = 13 := hE 13 (by omega)
  have e14 : (nI z = 14) ↔ z = 14 := hE 14 (by omega)
  have e16 : (nI z = 16) ↔ z = 16 := hE 16 (by omega)
  rcases hcase with ⟨hz4, hty⟩ | ⟨⟨h55, h11⟩, h2, hty⟩ | ⟨rfl, h1, hty⟩ | ⟨hzz, hty⟩ | ⟨hzz, h1, hty⟩
  · have e : a_step rk s c z a S P = (a_opd rk P s c z a :: S, P) := by unfold a_step; rw [if_pos hz4]
    rw [e]
    refine ⟨_, y8, h.congr (up_row (by decide)), hS.push, hP, FM.u551, up_ne (by omega), by rw [if_neg (by omega)]; exact up_ne (by omega), hty, Nat.le_refl _, fun r => ?_⟩
    simp only [q56_43, q56_45, q56_46, q56_49, q56_50, q56_53, q56_55, q56_56, q56_58, q56_60, q56_61, q56_62, q56_65, q56_66, q56_69, q5, show (z < 5) ↔ True from iff_true_intro (by omega), W_1, W_I, W_mk, W_tk, pm_rv, rf_0_0, rf_0_1, rf_0_2, rf_0_3, rf_0_4, rf_0_7, rf_0_8, rf_1_0, rf_1_2, rf_3_0, rf_3_1, rf_3_6, rf_3_7, rf_3_8, rf_9_0, rf_9_1, rf_10_0, rf_10_1, rf_10_6, rf_10_7, rf_10_8, rf_17_0, rf_17_1, rf_538_2, rf_538_6, rf_538_7, rf_538_9, rf_538_11, rf_538_12, rf_538_18, rf_538_19, rf_538_22, rf_538_23, rf_538_25, rf_538_27, rf_538_28, rf_538_30, rf_538_31, rf_538_32, rf_538_33, rf_538_34, rf_538_35, rf_538_36, ob_0, ob_1, ob_3, ob_9, ob_10, ob_17, ob_538, ar_2, ar_4, ar_5, ar_6, ar_7, ar_8, ar_11, ar_12, ar_13, ar_14, ar_15, ar_16, ar_116, ar_117, ar_539, ar_540, ar_541, ar_542, ar_543, ar_544, ar_545, ar_546, ar_547, ar_548, ar_549, ar_550, ar_551, ar_552, ar_553, ar_554, ar_555, ar_556, ar_557, ar_558, ex_eq, ex_ite, pm_bk_r, pm_bk_t, ol_nil, ol_one, true_and, and_true, false_and, and_false, reduceIte, Nat.reduceEqDiff, up_at, Nat.add_left_cancel_iff, c55 h hPL hrk hr1 hr6 hs hz4 ha, sm_in (show S.length < 2147483648 by omega), hl, sm_cl (show S.length < 2147483648 by omega), sm_s, List.length_cons]
  · match S, h2, hS, hl, hty with
    | y :: x :: S, h2, hS, hl, hty =>
      have e : a_step rk s c z a (y :: x :: S) P = (a_comb z x y :: S, P) := by unfold a_step; rw [if_neg (by omega), if_pos h11]
      rw [e]
      have hl' : S.length + 2 < 250 := hl
      have hS1 := hS.pop
      have hS2 := hS1.1.pop
      have hy : I 551 (S.length + 1) = y := hS1.2
      have hn1 : nI (S.length + 1 + 1) + (-1) = nI (S.length + 1) := by
        rw [show (-1 : Int32) = -(nI 1) from rfl, ← Int32.sub_eq_add_neg, sm_sub (by omega)]; rfl
      have hn2 : nI (S.length + 1) - 1 = nI S.length := by rw [show (1 : Int32) = nI 1 from rfl, sm_sub (by omega)]; rfl
      refine ⟨pm_up I 551 S.length (a_comb z x y), y8, h.congr (up_row (by decide)), hS2.1.push, hP, FM.u551, up_ne (by omega), by rw [if_neg (by omega)]; exact up_ne (by omega), by simpa using hty, by simp, fun r => ?_⟩
      simp only [q56_43, q56_45, q56_46, q5, show (z < 5) ↔ False from iff_false_intro (by omega), q56_72, q56_74, q56_76, q56_79, q56_82, q56_83, q56_86, q56_88, q56_89, q56_90, q56_92, q56_93, q56_96, q56_98, q56_99, q56_100, q56_101, q56_102, q56_105, q56_107, q56_108, q56_111, q56_112, q12, show (z < 12) ↔ True from iff_true_intro (by omega), W_1, W_I, W_mk, W_tk, pm_rv, rf_0_0, rf_0_1, rf_0_2, rf_0_3, rf_0_4, rf_0_7, rf_0_8, rf_1_0, rf_1_2, rf_3_0, rf_3_1, rf_3_6, rf_3_7, rf_3_8, rf_9_0, rf_9_1, rf_10_0, rf_10_1, rf_10_6, rf_10_7, rf_10_8, rf_17_0, rf_17_1, rf_538_2, rf_538_6, rf_538_7, rf_538_9, rf_538_11, rf_538_12, rf_538_18, rf_538_19, rf_538_22, rf_538_23, rf_538_25, rf_538_27, rf_538_28, rf_538_30, rf_538_31, rf_538_32, rf_538_33, rf_538_34, rf_538_35, rf_538_36, ob_0, ob_1, ob_3, ob_9, ob_10, ob_17, ob_538, ar_2, ar_4, ar_5, ar_6, ar_7, ar_8, ar_11, ar_12, ar_13, ar_14, ar_15, ar_16, ar_116, ar_117, ar_539, ar_540, ar_541, ar_542, ar_543, ar_544, ar_545, ar_546, ar_547, ar_548, ar_549, ar_550, ar_551, ar_552, ar_553, ar_554, ar_555, ar_556, ar_557, ar_558, ex_eq, ex_ite, pm_bk_r, pm_bk_t, ol_nil, ol_one, true_and, and_true, false_and, and_false, reduceIte, Nat.reduceEqDiff, up_at, Nat.add_left_cancel_iff, hn1, hn2, sm_in (show S.length < 2147483648 by omega), show S.length < 250 by omega, sm_cl (show S.length < 2147483648 by omega), sm_in (show S.length + 1 < 2147483648 by omega), show S.length + 1 < 250 by omega, sm_cl (show S.length + 1 < 2147483648 by omega), hS2.2, hy, c54 h55 h11, List.length_cons]
  · match S, h1, hS, hl, hty with
    | x :: S, h1, hS, hl, hty =>
      have e : a_step rk s c 12 a (x :: S) P = ((if x = 0 then 1 else 0) :: S, P) := by unfold a_step; rw [if_neg (by omega), if_neg (by omega), if_pos rfl]
      rw [e]
      have hl' : S.length + 1 < 250 := hl
      have hS1 := hS.pop
      have hn2 : nI (x :: S).length - 1 = nI S.length := by rw [show (1 : Int32) = nI 1 from rfl, sm_sub (by simp)]; rfl
      refine ⟨pm_up I 551 S.length (if x = 0 then 1 else 0), y8, h.congr (up_row (by decide)), hS1.1.push, hP, FM.u551, up_ne (fun q => absurd q.1 (by decide)), (up_ne (fun q => absurd q.1 (by decide))).trans (if_neg (by decide)).symm, hty, by simp, fun r => ?_⟩
      simp (decide := true) only [q56_43, q56_45, q56_46, q56_72, q56_74, q56_76, q56_115, q56_117, q56_119, q56_122, q56_123, q56_126, q56_128, q56_129, q56_130, q56_131, q56_134, q56_136, q56_137, q56_138, q56_139, W_1, W_I, W_mk, W_tk, pm_rv, rf_0_0, rf_0_1, rf_0_2, rf_0_3, rf_0_4, rf_0_7, rf_0_8, rf_1_0, rf_1_2, rf_3_0, rf_3_1, rf_3_6, rf_3_7, rf_3_8, rf_9_0, rf_9_1, rf_10_0, rf_10_1, rf_10_6, rf_10_7, rf_10_8, rf_17_0, rf_17_1, rf_538_2, rf_538_6, rf_538_7, rf_538_9, rf_538_11, rf_538_12, rf_538_18, rf_538_19, rf_538_22, rf_538_23, rf_538_25, rf_538_27, rf_538_28, rf_538_30, rf_538_31, rf_538_32, rf_538_33, rf_538_34, rf_538_35, rf_538_36, ob_0, ob_1, ob_3, ob_9, ob_10, ob_17, ob_538, ar_2, ar_4, ar_5, ar_6, ar_7, ar_8, ar_11, ar_12, ar_13, ar_14, ar_15, ar_16, ar_116, ar_117, ar_539, ar_540, ar_541, ar_542, ar_543, ar_544, ar_545, ar_546, ar_547, ar_548, ar_549, ar_550, ar_551, ar_552, ar_553, ar_554, ar_555, ar_556, ar_557, ar_558, ex_eq, ex_ite, pm_bk_r, pm_bk_t, ol_nil, ol_one, true_and, and_true, false_and, and_false, reduceIte, Nat.reduceEqDiff, up_at, Nat.add_left_cancel_iff, hn2, sm_in (show S.length < 2147483648 by omega), show S.length < 250 by omega, sm_cl (show S.length < 2147483648 by omega), hS1.2]
      by_cases hx : x = 0 <;> simp (decide := true) only [hx, q56_142, q56_143, q56_146, q56_147, q56_150, q56_151, W_1, W_I, W_mk, W_tk, pm_rv, rf_0_0, rf_0_1, rf_0_2, rf_0_3, rf_0_4, rf_0_7, rf_0_8, rf_1_0, rf_1_2, rf_3_0, rf_3_1, rf_3_6, rf_3_7, rf_3_8, rf_9_0, rf_9_1, rf_10_0, rf_10_1, rf_10_6, rf_10_7, rf_10_8, rf_17_0, rf_17_1, rf_538_2, rf_538_6, rf_538_7, rf_538_9, rf_538_11, rf_538_12, rf_538_18, rf_538_19, rf_538_22, rf_538_23, rf_538_25, rf_538_27, rf_538_28, rf_538_30, rf_538_31, rf_538_32, rf_538_33, rf_538_34, rf_538_35, rf_538_36, ob_0, ob_1, ob_3, ob_9, ob_10, ob_17, ob_538, ar_2, ar_4, ar_5, ar_6, ar_7, ar_8, ar_11, ar_12, ar_13, ar_14, ar_15, ar_16, ar_116, ar_117, ar_539, ar_540, ar_541, ar_542, ar_543, ar_544, ar_545, ar_546, ar_547, ar_548, ar_549, ar_550, ar_551, ar_552, ar_553, ar_554, ar_555, ar_556, ar_557, ar_558, ex_eq, ex_ite, pm_bk_r, pm_bk_t, ol_nil, ol_one, true_and, and_true, false_and, and_false, reduceIte, Nat.reduceEqDiff, up_at, Nat.add_left_cancel_iff, c53, sm_in (show S.length < 2147483648 by omega), show S.length < 250 by omega, sm_cl (show S.length < 2147483648 by omega), List.length_cons]
  · rcases hzz with rfl | rfl
    · have ha' : a / 8 < 7 ∧ a % 8 < 6 := by simpa [a_arg] using ha
      have e8 : nI a / 8 = nI (a / 8) := by rw [show (8 : Int32) = nI 8 from rfl, sm_div (by omega) (by omega)]
      have em : nI a - nI (a / 8) * 8 = nI (a % 8) := by
        rw [show (8 : Int32) = nI 8 from rfl, sm_mul, sm_sub (by omega)]
        congr 1
        omega
      have e80 : ((8 : Int32) = 0) ↔ False := by decide
      have hstep : a_step rk s c 13 a S P = if a_card P s c (a / 8) < 0 then (S, P) else (S, a_go P (a_card P s c (a / 8)).toNatClampNeg (a_place (a % 8) s)) := by
        unfold a_step; rw [if_neg (by omega), if_neg (by omega), if_neg (by omega), if_pos rfl]
      rcases a_card_spec (z := a / 8) hP hs hc with e | ⟨x, p, hx, hp, hm, e⟩
      · have e1 : a_step rk s c 13 a S P = (S, P) := by rw [hstep, e, if_pos m1_neg]
        rw [e1]
        refine ⟨I, some (.int (-1)), h, hS, hP, FM.refl, rfl, rfl, hty, by simp, fun r => ?_⟩
        simp (decide := true) only [q56_43, q56_45, q56_46, q56_72, q56_74, q56_76, q56_115, q56_117, q56_119, q56_154, q56_156, q56_158, q56_161, q56_162, q56_164, q56_166, q56_167, q56_168, q56_169, q56_172, q56_174, q56_176, q56_194, W_1, W_I, W_mk, W_tk, pm_rv, rf_0_0, rf_0_1, rf_0_2, rf_0_3, rf_0_4, rf_0_7, rf_0_8, rf_1_0, rf_1_2, rf_3_0, rf_3_1, rf_3_6, rf_3_7, rf_3_8, rf_9_0, rf_9_1, rf_10_0, rf_10_1, rf_10_6, rf_10_7, rf_10_8, rf_17_0, rf_17_1, rf_538_2, rf_538_6, rf_538_7, rf_538_9, rf_538_11, rf_538_12, rf_538_18, rf_538_19, rf_538_22, rf_538_23, rf_538_25, rf_538_27, rf_538_28, rf_538_30, rf_538_31, rf_538_32, rf_538_33, rf_538_34, rf_538_35, rf_538_36, ob_0, ob_1, ob_3, ob_9, ob_10, ob_17, ob_538, ar_2, ar_4, ar_5, ar_6, ar_7, ar_8, ar_11, ar_12, ar_13, ar_14, ar_15, ar_16, ar_116, ar_117, ar_539, ar_540, ar_541, ar_542, ar_543, ar_544, ar_545, ar_546, ar_547, ar_548, ar_549, ar_550, ar_551, ar_552, ar_553, ar_554, ar_555, ar_556, ar_557, ar_558, ex_eq, ex_ite, pm_bk_r, pm_bk_t, ol_nil, ol_one, true_and, and_true, false_and, and_false, reduceIte, Nat.reduceEqDiff, up_at, Nat.add_left_cancel_iff, e8, e80, not_false_eq_true, c52 h hPL ha'.1 hs, e]
      · have hx24 : x < 24 := by have := hP.2.2.1; omega
        have e0 : (nI x < 0) ↔ False := iff_false_intro (sm_neg (by omega))
        have e1 : a_step rk s c 13 a S P = (S, a_go P x (a_place (a % 8) s)) := by rw [hstep, e, if_neg (sm_neg (by omega)), sm_cl (by omega)]
        rw [e1]
        obtain ⟨J, g1, g2, g3⟩ := c51 (d := d + 3) (k := k) (o := o) h hP.1 hx24 (a_place_lt (z := a % 8) hs)
        refine ⟨J, some (.int (nI x)), g1, hS.fr (g2.1 551 (by decide)), hP.go hx (a_place_lt hs), fun x j h1 _ _ => by rw [g2.1 x h1], g2.2, by rw [g2.1 538 (by decide)]; rfl, hty, by simp, fun r => ?_⟩
        simp (decide := true) only [q56_43, q56_45, q56_46, q56_72, q56_74, q56_76, q56_115, q56_117, q56_119, q56_154, q56_156, q56_158, q56_161, q56_162, q56_164, q56_166, q56_167, q56_168, q56_169, q56_172, q56_174, q56_176, q56_179, q56_180, q56_182, q56_184, q56_186, q56_187, q56_188, q56_191, q56_194, W_1, W_I, W_mk, W_tk, pm_rv, rf_0_0, rf_0_1, rf_0_2, rf_0_3, rf_0_4, rf_0_7, rf_0_8, rf_1_0, rf_1_2, rf_3_0, rf_3_1, rf_3_6, rf_3_7, rf_3_8, rf_9_0, rf_9_1, rf_10_0, rf_10_1, rf_10_6, rf_10_7, rf_10_8, rf_17_0, rf_17_1, rf_538_2, rf_538_6, rf_538_7, rf_538_9, rf_538_11, rf_538_12, rf_538_18, rf_538_19, rf_538_22, rf_538_23, rf_538_25, rf_538_27, rf_538_28, rf_538_30, rf_538_31, rf_538_32, rf_538_33, rf_538_34, rf_538_35, rf_538_36, ob_0, ob_1, ob_3, ob_9, ob_10, ob_17, ob_538, ar_2, ar_4, ar_5, ar_6, ar_7, ar_8, ar_11, ar_12, ar_13, ar_14, ar_15, ar_16, ar_116, ar_117, ar_539, ar_540, ar_541, ar_542, ar_543, ar_544, ar_545, ar_546, ar_547, ar_548, ar_549, ar_550, ar_551, ar_552, ar_553, ar_554, ar_555, ar_556, ar_557, ar_558, ex_eq, ex_ite, pm_bk_r, pm_bk_t, ol_nil, ol_one, true_and, and_true, false_and, and_false, reduceIte, Nat.reduceEqDiff, up_at, Nat.add_left_cancel_iff, e8, e80, not_false_eq_true, c52 h hPL ha'.1 hs, e, e0, em, c48 ha'.2 hs, g3]
    · have e1 : a_step rk s c 16 a S P = (S, (P.1, P.2.1, P.2.2.1, 1 - s)) := by
        unfold a_step; rw [if_neg (by omega), if_neg (by omega), if_neg (by omega), if_neg (by omega), if_neg (by omega), if_neg (by omega)]; rfl
      rw [e1]
      refine ⟨pm_up I 538 29 1, y8, ?_, hS.fr (up_row (by decide)), ⟨hP.1, hP.2.1, hP.2.2.1, by show 1 - s < 2; omega⟩, fun x j _ _ h => up_ne h, up_ne (by omega), by rw [if_pos rfl, up_eq], hty, by simp, fun r => ?_⟩
      · have h2 := h.congr (J := pm_up I 538 29 1) (up_row (by decide))
        exact h2
      · simp (decide := true) only [q56_43, q56_45, q56_46, q56_72, q56_74, q56_76, q56_115, q56_117, q56_119, q56_154, q56_156, q56_158, q56_197, q56_199, q56_201, q56_204, q56_205, q56_206, q56_209, W_1, W_I, W_mk, W_tk, pm_rv, rf_0_0, rf_0_1, rf_0_2, rf_0_3, rf_0_4, rf_0_7, rf_0_8, rf_1_0, rf_1_2, rf_3_0, rf_3_1, rf_3_6, rf_3_7, rf_3_8, rf_9_0, rf_9_1, rf_10_0, rf_10_1, rf_10_6, rf_10_7, rf_10_8, rf_17_0, rf_17_1, rf_538_2, rf_538_6, rf_538_7, rf_538_9, rf_538_11, rf_538_12, rf_538_18, rf_538_19, rf_538_22, rf_538_23, rf_538_25, rf_538_27, rf_538_28, rf_538_30, rf_538_31, rf_538_32, rf_538_33, rf_538_34, rf_538_35, rf_538_36, ob_0, ob_1, ob_3, ob_9, ob_10, ob_17, ob_538, ar_2, ar_4, ar_5, ar_6, ar_7, ar_8, ar_11, ar_12, ar_13, ar_14, ar_15, ar_16, ar_116, ar_117, ar_539, ar_540, ar_541, ar_542, ar_543, ar_544, ar_545, ar_546, ar_547, ar_548, ar_549, ar_550, ar_551, ar_552, ar_553, ar_554, ar_555, ar_556, ar_557, ar_558, ex_eq, ex_ite, pm_bk_r, pm_bk_t, ol_nil, ol_one, true_and, and_true, false_and, and_false, reduceIte, Nat.reduceEqDiff, up_at, Nat.add_left_cancel_iff]
  · match S, h1, hS, hl, hty with
    | x :: S, h1, hS, hl, hty =>
      have hl' : S.length + 1 < 250 := hl
      have hS1 := hS.pop
      have hn1 : nI (x :: S).length + (-1) = nI S.length := by
        rw [show (-1 : Int32) = -(nI 1) from rfl, ← Int32.sub_eq_add_neg, sm_sub (by simp)]; rfl
      rcases hzz with rfl | rfl
      · have ha4 : a < 4 := by simpa [a_arg] using ha
        have e1 : a_step rk s c 14 a (x :: S) P = (S, (P.1, a_set P.2.1 a x, P.2.2)) := by
          unfold a_step; rw [if_neg (by omega), if_neg (by omega), if_neg (by omega), if_neg (by omega), if_pos rfl]; rfl
        rw [e1]
        have e6 : (6 : Int32) + nI a = nI (6 + a) := by rw [show (6 : Int32) = nI 6 from rfl, sm_add]
        refine ⟨pm_up I 549 (6 + a) x, some (.int (nI (6 + a))), ?_, hS1.1.fr (up_row (by decide)), hP, FM.u549, up_ne (by omega), by rw [if_neg (by omega)]; exact up_ne (by omega), by simpa using hty, by simp; omega, fun r => ?_⟩
        · refine MP.mk0 (fun p hp => ⟨by rw [up_ne (by omega)]; exact h.len hp, fun i hi => by rw [up_ne (by omega)]; exact h.crd hp hi⟩) (fun j hj => ?_) (fun j hj => by rw [up_ne (by omega)]; exact h.sco hj)
          show _ = if j = a then x else P.2.1 j
          by_cases e : j = a
          · rw [e, up_eq, if_pos rfl]
          · rw [up_ne (by omega), if_neg e]; exact h.cnt hj
        · simp (decide := true) only [q56_43, q56_45, q56_46, q56_72, q56_74, q56_76, q56_115, q56_117, q56_119, q56_154, q56_156, q56_158, q56_197, q56_199, q56_201, q56_212, q56_215, q56_217, q56_219, q56_222, q56_224, q56_226, q56_227, q56_230, q56_232, q56_233, q56_234, q56_236, q56_237, q56_240, q56_242, q56_244, q56_246, q56_249, q56_250, q56_253, q56_255, q56_256, q56_259, q56_260, q56_263, q56_265, q56_266, q56_267, q56_270, q56_272, q56_273, q56_274, W_1, W_I, W_mk, W_tk, pm_rv, rf_0_0, rf_0_1, rf_0_2, rf_0_3, rf_0_4, rf_0_7, rf_0_8, rf_1_0, rf_1_2, rf_3_0, rf_3_1, rf_3_6, rf_3_7, rf_3_8, rf_9_0, rf_9_1, rf_10_0, rf_10_1, rf_10_6, rf_10_7, rf_10_8, rf_17_0, rf_17_1, rf_538_2, rf_538_6, rf_538_7, rf_538_9, rf_538_11, rf_538_12, rf_538_18, rf_538_19, rf_538_22, rf_538_23, rf_538_25, rf_538_27, rf_538_28, rf_538_30, rf_538_31, rf_538_32, rf_538_33, rf_538_34, rf_538_35, rf_538_36, ob_0, ob_1, ob_3, ob_9, ob_10, ob_17, ob_538, ar_2, ar_4, ar_5, ar_6, ar_7, ar_8, ar_11, ar_12, ar_13, ar_14, ar_15, ar_16, ar_116, ar_117, ar_539, ar_540, ar_541, ar_542, ar_543, ar_544, ar_545, ar_546, ar_547, ar_548, ar_549, ar_550, ar_551, ar_552, ar_553, ar_554, ar_555, ar_556, ar_557, ar_558, ex_eq, ex_ite, pm_bk_r, pm_bk_t, ol_nil, ol_one, true_and, and_true, false_and, and_false, reduceIte, Nat.reduceEqDiff, up_at, Nat.add_left_cancel_iff, hn1, e6, sm_in (show 6 + a < 2147483648 by omega), show 6 + a < 157 by omega, sm_cl (show 6 + a < 2147483648 by omega), sm_in (show S.length < 2147483648 by omega), show S.length < 250 by omega, sm_cl (show S.length < 2147483648 by omega), hS1.2]
      · have e1 : a_step rk s c 15 a (x :: S) P = (S, (P.1, P.2.1, a_set P.2.2.1 s (P.2.2.1 s + x), P.2.2.2)) := by
          unfold a_step; rw [if_neg (by omega), if_neg (by omega), if_neg (by omega), if_neg (by omega), if_neg (by omega), if_pos rfl]; rfl
        rw [e1]
        have e6 : (10 : Int32) + nI s = nI (10 + s) := by rw [show (10 : Int32) = nI 10 from rfl, sm_add]
        refine ⟨pm_up I 549 (10 + s) (P.2.2.1 s + x), some (.int (nI (10 + s))), ?_, hS1.1.fr (up_row (by decide)), hP, FM.u549, up_ne (by omega), by rw [if_neg (by omega)]; exact up_ne (by omega), by simpa using hty, by simp; omega, fun r => ?_⟩
        · refine MP.mk0 (fun p hp => ⟨by rw [up_ne (by omega)]; exact h.len hp, fun i hi => by rw [up_ne (by omega)]; exact h.crd hp hi⟩) (fun j hj => by rw [up_ne (by omega)]; exact h.cnt hj) (fun j hj => ?_)
          show _ = if j = s then P.2.2.1 s + x else P.2.2.1 j
          by_cases e : j = s
          · rw [e, up_eq, if_pos rfl]
          · rw [up_ne (by omega), if_neg e]; exact h.sco hj
        · simp (decide := true) only [q56_43, q56_45, q56_46, q56_72, q56_74, q56_76, q56_115, q56_117, q56_119, q56_154, q56_156, q56_158, q56_197, q56_199, q56_201, q56_212, q56_215, q56_217, q56_219, q56_222, q56_224, q56_226, q56_227, q56_230, q56_232, q56_233, q56_234, q56_236, q56_237, q56_240, q56_242, q56_244, q56_246, q56_249, q56_250, q56_253, q56_255, q56_256, q56_259, q56_260, q56_263, q56_265, q56_266, q56_267, q56_270, q56_272, q56_273, q56_274, W_1, W_I, W_mk, W_tk, pm_rv, rf_0_0, rf_0_1, rf_0_2, rf_0_3, rf_0_4, rf_0_7, rf_0_8, rf_1_0, rf_1_2, rf_3_0, rf_3_1, rf_3_6, rf_3_7, rf_3_8, rf_9_0, rf_9_1, rf_10_0, rf_10_1, rf_10_6, rf_10_7, rf_10_8, rf_17_0, rf_17_1, rf_538_2, rf_538_6, rf_538_7, rf_538_9, rf_538_11, rf_538_12, rf_538_18, rf_538_19, rf_538_22, rf_538_23, rf_538_25, rf_538_27, rf_538_28, rf_538_30, rf_538_31, rf_538_32, rf_538_33, rf_538_34, rf_538_35, rf_538_36, ob_0, ob_1, ob_3, ob_9, ob_10, ob_17, ob_538, ar_2, ar_4, ar_5, ar_6, ar_7, ar_8, ar_11, ar_12, ar_13, ar_14, ar_15, ar_16, ar_116, ar_117, ar_539, ar_540, ar_541, ar_542, ar_543, ar_544, ar_545, ar_546, ar_547, ar_548, ar_549, ar_550, ar_551, ar_552, ar_553, ar_554, ar_555, ar_556, ar_557, ar_558, ex_eq, ex_ite, pm_bk_r, pm_bk_t, ol_nil, ol_one, true_and, and_true, false_and, and_false, reduceIte, Nat.reduceEqDiff, up_at, Nat.add_left_cancel_iff, hn1, e6, sm_in (show 10 + s < 2147483648 by omega), show 10 + s < 157 by omega, sm_cl (show 10 + s < 2147483648 by omega), sm_in (show S.length < 2147483648 by omega), show S.length < 250 by omega, sm_cl (show S.length < 2147483648 by omega), hS1.2, h.sco hs]
theorem c56_l {C Z : List (Nat × Nat)} {N rk s h' b : Nat} {c : Int32} (hr1 : 1 ≤ rk) (hr6 : rk ≤ 6) (hs : s < 2) (hc : CH N c) {y1 : Option Value} : ∀ (L : List (Nat × Nat)) (kk : Nat) (S : List Int32) (P : Pos) (I : Nat → Nat → Int32) (y6 y7 y8 : Option Value),
    C.drop kk = L ++ (17, b) :: Z → a_ty L S.length = some h' → CM C I → I 538 16 = nI rk → MP 549 0 P I → PA N P → SM S I → S.length ≤ kk →
    ∃ J, MP 549 0 (a_run rk s c L S P).2 J ∧ SM (a_run rk s c L S P).1 J ∧ PA N (a_run rk s c L S P).2 ∧ FM I J ∧ J 549 12 = I 549 12 ∧ J 538 29 = (if L.any (fun q => q.1 == 16) = true then 1 else I 538 29) ∧ (a_run rk s c L S P).1.length = h' ∧
      ∀ r, (pm_R (d + 5) 56 13 [some (.ref 538), y1, some (.int (nI s)), some (.int c), some (.int (nI S.length)), some (.int (nI kk)), y6, y7, y8] [] (Wm I k o) r ↔ r = (.inl (some (.int (J 551 0))), Wm J k o)) := by
  intro L
  induction L with
  | nil =>
    intro kk S P I y6 y7 y8 hC hty hCM hrk h hP hS hk
    obtain ⟨hk1, hk2, -⟩ := dropG hC
    have hg := hCM.2 kk hk1
    have h160 := hCM.1
    rw [hk2] at hg
    refine ⟨I, h, hS, hP, FM.refl, rfl, rfl, by show S.length = h'; simpa [a_ty] using hty, fun r => ?_⟩
    rw [q56_13]
    simp (decide := true) only [q56_14, q56_17, q56_19, q56_20, q56_22, q56_281, q56_282, q56_285, q56_286, q56_287, W_1, W_I, W_mk, W_tk, pm_rv, rf_0_0, rf_0_1, rf_0_2, rf_0_3, rf_0_4, rf_0_7, rf_0_8, rf_1_0, rf_1_2, rf_3_0, rf_3_1, rf_3_6, rf_3_7, rf_3_8, rf_9_0, rf_9_1, rf_10_0, rf_10_1, rf_10_6, rf_10_7, rf_10_8, rf_17_0, rf_17_1, rf_538_2, rf_538_6, rf_538_7, rf_538_9, rf_538_11, rf_538_12, rf_538_18, rf_538_19, rf_538_22, rf_538_23, rf_538_25, rf_538_27, rf_538_28, rf_538_30, rf_538_31, rf_538_32, rf_538_33, rf_538_34, rf_538_35, rf_538_36, ob_0, ob_1, ob_3, ob_9, ob_10, ob_17, ob_538, ar_2, ar_4, ar_5, ar_6, ar_7, ar_8, ar_11, ar_12, ar_13, ar_14, ar_15, ar_16, ar_116, ar_117, ar_539, ar_540, ar_541, ar_542, ar_543, ar_544, ar_545, ar_546, ar_547, ar_548, ar_549, ar_550, ar_551, ar_552, ar_553, ar_554, ar_555, ar_556, ar_557, ar_558, ex_eq, ex_ite, pm_bk_r, pm_bk_t, ol_nil, ol_one, true_and, and_true, false_and, and_false, reduceIte, Nat.reduceEqDiff, up_at, Nat.add_left_cancel_iff, sm_in (show kk < 2147483648 by omega), show kk < 160 by omega, sm_cl (show kk < 2147483648 by omega), hg.1, vp_0, kc0]
  | cons x L ih =>
    obtain ⟨z, a⟩ := x
    intro kk S P I y6 y7 y8 hC hty hCM hrk h hP hS hk
    obtain ⟨hk1, hk2, hk3⟩ := dropG hC
    have hg := hCM.2 kk hk1
    have h160 := hCM.1
    rw [hk2] at hg
    have hz := (a_ty_op hty).1
    obtain ⟨J, z8, g1, g2, g3, g4, g5, g6, g7, g8, g9⟩ := c56_s (d := d) (k := k) (o := o) (y1 := y1) (y5 := some (.int (nI kk))) (y8 := y8) h hP hS hrk hr1 hr6 hs hc (by omega) hty
    obtain ⟨J', f1, f2, f3, f4, f5, f6, f7, f8⟩ := ih (kk + 1) _ _ J (some (.int (nI z))) (some (.int (nI a))) z8 hk3 g7 (hCM.fm g4) (by rw [g4 _ _ (by decide) (by decide) (by omega)]; exact hrk) g1 g3 g2 (by omega)
    refine ⟨J', f1, f2, f3, g4.trans f4, f5.trans g5, ?_, f7, fun r => ?_⟩
    · rw [f6, g6, List.any_cons]
      by_cases e : z = 16
      · rw [if_pos e, e]; simp
      · have : (z == 16) = false := by simpa using e
        simp only [this, Bool.false_or, if_neg e]
    · rw [q56_13]
      simp only [q56_14, q56_17, q56_19, q56_20, q56_22, q56_25, q56_26, q56_29, q56_31, q56_32, q56_34, q56_35, q56_38, q56_40, q56_41, W_1, W_I, W_mk, W_tk, pm_rv, rf_0_0, rf_0_1, rf_0_2, rf_0_3, rf_0_4, rf_0_7, rf_0_8, rf_1_0, rf_1_2, rf_3_0, rf_3_1, rf_3_6, rf_3_7, rf_3_8, rf_9_0, rf_9_1, rf_10_0, rf_10_1, rf_10_6, rf_10_7, rf_10_8, rf_17_0, rf_17_1, rf_538_2, rf_538_6, rf_538_7, rf_538_9, rf_538_11, rf_538_12, rf_538_18, rf_538_19, rf_538_22, rf_538_23, rf_538_25, rf_538_27, rf_538_28, rf_538_30, rf_538_31, rf_538_32, rf_538_33, rf_538_34, rf_538_35, rf_538_36, ob_0, ob_1, ob_3, ob_9, ob_10, ob_17, ob_538, ar_2, ar_4, ar_5, ar_6, ar_7, ar_8, ar_11, ar_12, ar_13, ar_14, ar_15, ar_16, ar_116, ar_117, ar_539, ar_540, ar_541, ar_542, ar_543, ar_544, ar_545, ar_546, ar_547, ar_548, ar_549, ar_550, ar_551, ar_552, ar_553, ar_554, ar_555, ar_556, ar_557, ar_558, ex_eq, ex_ite, pm_bk_r, pm_bk_t, ol_nil, ol_one, true_and, and_true, false_and, and_false, reduceIte, Nat.reduceEqDiff, up_at, Nat.add_left_cancel_iff, sm_in (show kk < 2147483648 by omega), show kk < 160 by omega, sm_cl (show kk < 2147483648 by omega), hg.1, hg.2, show (nI z = 17) ↔ False from iff_false_intro (by rw [show (17 : Int32) = nI 17 from rfl, sm_inj (by omega) (by omega)]; omega), g9, q56_275, q56_278, sm_s, f8]
/-- the game as the reference keeps it -/
def GM (G : Gm) (I : Nat → Nat → Int32) : Prop := CM G.1 I ∧ I 538 15 = nI G.2.1 ∧ I 538 16 = nI G.2.2.1 ∧ I 538 17 = nI G.2.2.2.1.length ∧ I 538 20 = nI G.2.2.2.2 ∧ I 538 21 = nI G.1.length ∧ ∀ r, r < G.2.2.2.1.length → I 545 r = (if (g_r G r).1 = true then 1 else 0) ∧ I 546 r = nI (g_r G r).2.1
theorem GM.fm {G : Gm} {I J : Nat → Nat → Int32} (h : GM G I) (hf : FM I J) : GM G J := by
  obtain ⟨h1, h2, h3, h4, h5, h6, h7⟩ := h
  refine ⟨h1.fm hf, ?_, ?_, ?_, ?_, ?_, fun r hr => ?_⟩
  · rw [hf _ _ (by decide) (by decide) (by omega)]; exact h2
  · rw [hf _ _ (by decide) (by decide) (by omega)]; exact h3
  · rw [hf _ _ (by decide) (by decide) (by omega)]; exact h4
  · rw [hf _ _ (by decide) (by decide) (by omega)]; exact h5
  · rw [hf _ _ (by decide) (by decide) (by omega)]; exact h6
  · rw [hf _ _ (by decide) (by decide) (by omega), hf _ _ (by decide) (by decide) (by omega)]; exact h7 r hr
theorem c56 {C Z L : List (Nat × Nat)} {N rk s kk b h' : Nat} {c : Int32} {P : Pos} {I : Nat → Nat → Int32} (hr1 : 1 ≤ rk) (hr6 : rk ≤ 6) (hs : s < 2) (hc : CH N c) (hC : C.drop kk = L ++ (17, b) :: Z) (hty : a_ty L 0 = some h') (hG : CM C I) (hrk : I 538 16 = nI rk) (h : MP 549 0 P I) (hP : PA N P) :
    ∃ J, MP 549 0 (a_run rk s c L [] P).2 J ∧ SM (a_run rk s c L [] P).1 J ∧ PA N (a_run rk s c L [] P).2 ∧ FM I J ∧ J 549 12 = I 549 12 ∧ J 538 29 = (if L.any (fun q => q.1 == 16) = true then 1 else I 538 29) ∧ (a_run rk s c L [] P).1.length = h' ∧
      ∀ r, (pm_C (d + 6) 56 [.ref 538, .int (nI kk), .int (nI s), .int c] (Wm I k o) r ↔ r = (.inl (some (.int (J 551 0))), Wm J k o)) := by
  have f0 : FM I (pm_up I 551 0 0) := FM.u551
  obtain ⟨J, g1, g2, g3, g4, g5, g6, g7, g8⟩ := c56_l (d := d) (k := k) (o := o) (y1 := some (.int (nI kk))) hr1 hr6 hs hc L kk [] P (pm_up I 551 0 0) none none none hC hty (hG.fm f0) (by rw [f0 _ _ (by decide) (by decide) (by omega)]; exact hrk) (h.congr (up_row (by decide))) hP (fun j hj => by simp at hj) (Nat.zero_le _)
  refine ⟨J, g1, g2, g3, f0.trans g4, by rw [g5]; exact up_ne (by omega), by rw [g6, up_ne (by omega)], g7, fun r => ?_⟩
  have g8' := g8 r
  rw [show nI ([] : List Int32).length = (0 : Int32) from rfl] at g8'
  rw [n56]
  simp only [q56_0, q56_1, q56_3, q56_4, q56_7, q56_8, q56_9, q56_10, q56_11, W_1, W_I, W_mk, W_tk, pm_rv, rf_0_0, rf_0_1, rf_0_2, rf_0_3, rf_0_4, rf_0_7, rf_0_8, rf_1_0, rf_1_2, rf_3_0, rf_3_1, rf_3_6, rf_3_7, rf_3_8, rf_9_0, rf_9_1, rf_10_0, rf_10_1, rf_10_6, rf_10_7, rf_10_8, rf_17_0, rf_17_1, rf_538_2, rf_538_6, rf_538_7, rf_538_9, rf_538_11, rf_538_12, rf_538_18, rf_538_19, rf_538_22, rf_538_23, rf_538_25, rf_538_27, rf_538_28, rf_538_30, rf_538_31, rf_538_32, rf_538_33, rf_538_34, rf_538_35, rf_538_36, ob_0, ob_1, ob_3, ob_9, ob_10, ob_17, ob_538, ar_2, ar_4, ar_5, ar_6, ar_7, ar_8, ar_11, ar_12, ar_13, ar_14, ar_15, ar_16, ar_116, ar_117, ar_539, ar_540, ar_541, ar_542, ar_543, ar_544, ar_545, ar_546, ar_547, ar_548, ar_549, ar_550, ar_551, ar_552, ar_553, ar_554, ar_555, ar_556, ar_557, ar_558, ex_eq, ex_ite, pm_bk_r, pm_bk_t, ol_nil, ol_one, true_and, and_true, false_and, and_false, reduceIte, Nat.reduceEqDiff, up_at, Nat.add_left_cancel_iff, vp_0, kc0, show 0 < 250 by omega, g8']
theorem any16 {L : List (Nat × Nat)} (h : ∀ q ∈ L, q.1 ≤ 12) : L.any (fun q => q.1 == 16) = false := by
  rw [List.any_eq_false]
  intro q hq
  have := h q hq
  simp
  omega
theorem c56v {G : Gm} (hG : g_ok G) {P : Pos} {I : Nat → Nat → Int32} {kk : Nat} {c : Int32} (hc : CH (g_n G) c) (hk : g_sg G.1 kk 1 true) (hR : GM G I) (h : MP 549 0 P I) (hP : PA (g_n G) P) :
    ∃ J, MP 549 0 P J ∧ FM I J ∧ J 549 12 = I 549 12 ∧ J 538 29 = I 538 29 ∧ ∀ q, (pm_C (d + 6) 56 [.ref 538, .int (nI kk), .int (nI P.2.2.2), .int c] (Wm I k o) q ↔ q = (.inl (some (.int (a_val G P c kk))), Wm J k o)) := by
  obtain ⟨b, Z, h1, h2, h3⟩ := hk
  obtain ⟨J, g1, g2, g3, g4, g5, g6, g7, g8⟩ := c56 (d := d) (k := k) (o := o) (s := P.2.2.2) hG.2.2.1.1 hG.2.2.1.2 hP.2.2.2 hc h1 h2 hR.1 hR.2.2.1 h hP
  rw [a_run_app (h3 rfl)] at g1
  refine ⟨J, g1, g4, g5, by rw [g6, any16 (h3 rfl)]; rfl, fun q => ?_⟩
  rw [g8]
  have e : J 551 0 = a_val G P c kk := by
    unfold a_val
    match e2 : (a_run G.2.2.1 P.2.2.2 c (a_seg G.1 kk) [] P).1, g7 with
    | [x], _ =>
      rw [e2] at g2
      exact g2 0 (by simp)
  rw [e]
theorem a_step_turn {rk s z a : Nat} {c : Int32} {S : List Int32} {P : Pos} (hz : z ≤ 16) : (a_step rk s c z a S P).2.2.2.2 = if (z == 16) = true then 1 - s else P.2.2.2 := by
  by_cases e : z = 16
  · subst e; rfl
  · have e2 : (z == 16) = false := by simpa using e
    rw [e2]
    unfold a_step
    by_cases h4 : z ≤ 4
    · rw [if_pos h4]; rfl
    · rw [if_neg h4]
      by_cases h11 : z ≤ 11
      · rw [if_pos h11]; split <;> rfl
      · rw [if_neg h11]
        by_cases h12 : z = 12
        · rw [if_pos h12]; split <;> rfl
        · rw [if_neg h12]
          by_cases h13 : z = 13
          · rw [if_pos h13]; split <;> rfl
          · rw [if_neg h13]
            by_cases h14 : z = 14
            · rw [if_pos h14]; split <;> rfl
            · rw [if_neg h14, if_pos (by omega)]; split <;> rfl
theorem a_ty_le : ∀ {L : List (Nat × Nat)} {h h' : Nat}, a_ty L h = some h' → ∀ q ∈ L, q.1 ≤ 16 := by
  intro L
  induction L with
  | nil => intro h h' _ q hq; cases hq
  | cons x L ih =>
    obtain ⟨z, a⟩ := x
    intro h h' hty q hq
    have ho := a_ty_op hty
    rcases List.mem_cons.mp hq with rfl | hq
    · exact ho.1
    · rcases ho.2.2 with ⟨_, h1⟩ | ⟨_, _, h1⟩ | ⟨_, _, h1⟩ | ⟨_, h1⟩ | ⟨_, _, h1⟩ <;> exact ih h1 q hq
theorem a_run_turn {rk s : Nat} {c : Int32} : ∀ {L : List (Nat × Nat)} {S : List Int32} {P : Pos}, (∀ q ∈ L, q.1 ≤ 16) → (a_run rk s c L S P).2.2.2.2 = if L.any (fun q => q.1 == 16) = true then 1 - s else P.2.2.2 := by
  intro L
  induction L with
  | nil => intro S P _; rfl
  | cons x L ih =>
    intro S P h
    show (a_run rk s c L (a_step rk s c x.1 x.2 S P).1 (a_step rk s c x.1 x.2 S P).2).2.2.2.2 = _
    rw [ih (fun q hq => h q (List.mem_cons_of_mem _ hq)), a_step_turn (h x List.mem_cons_self), List.any_cons]
    by_cases e : (x.1 == 16) = true
    · rw [if_pos e, e]; simp
    · rw [if_neg e, Bool.eq_false_iff.mpr e, Bool.false_or]
theorem c57_l {C Z : List (Nat × Nat)} {b : Nat} {I : Nat → Nat → Int32} (hG : CM C I) {y1 : Option Value} {q : pm_Res} : ∀ (L : List (Nat × Nat)) (kk : Nat), C.drop kk = L ++ (17, b) :: Z → (∀ q ∈ L, q.1 ≤ 16) →
    (pm_R d 57 2 [some (.ref 538), y1, some (.int (nI kk))] [] (Wm I k o) q ↔ q = (.inl (some (.int (nI (kk + L.length + 1)))), Wm I k o)) := by
  intro L
  have h160 := hG.1
  induction L with
  | nil =>
    intro kk hC _
    obtain ⟨hk1, hk2, -⟩ := dropG hC
    have hg := hG.2 kk hk1
    rw [hk2] at hg
    rw [q57_2]
    simp (decide := true) only [q57_3, q57_6, q57_7, q57_8, q57_10, q57_19, q57_20, q57_21, q57_22, W_1, W_I, W_mk, W_tk, pm_rv, rf_0_0, rf_0_1, rf_0_2, rf_0_3, rf_0_4, rf_0_7, rf_0_8, rf_1_0, rf_1_2, rf_3_0, rf_3_1, rf_3_6, rf_3_7, rf_3_8, rf_9_0, rf_9_1, rf_10_0, rf_10_1, rf_10_6, rf_10_7, rf_10_8, rf_17_0, rf_17_1, rf_538_2, rf_538_6, rf_538_7, rf_538_9, rf_538_11, rf_538_12, rf_538_18, rf_538_19, rf_538_22, rf_538_23, rf_538_25, rf_538_27, rf_538_28, rf_538_30, rf_538_31, rf_538_32, rf_538_33, rf_538_34, rf_538_35, rf_538_36, ob_0, ob_1, ob_3, ob_9, ob_10, ob_17, ob_538, ar_2, ar_4, ar_5, ar_6, ar_7, ar_8, ar_11, ar_12, ar_13, ar_14, ar_15, ar_16, ar_116, ar_117, ar_539, ar_540, ar_541, ar_542, ar_543, ar_544, ar_545, ar_546, ar_547, ar_548, ar_549, ar_550, ar_551, ar_552, ar_553, ar_554, ar_555, ar_556, ar_557, ar_558, ex_eq, ex_ite, pm_bk_r, pm_bk_t, ol_nil, ol_one, true_and, and_true, false_and, and_false, reduceIte, Nat.reduceEqDiff, up_at, Nat.add_left_cancel_iff, sm_in (show kk < 2147483648 by omega), show kk < 160 by omega, sm_cl (show kk < 2147483648 by omega), hg.1, sm_s]
    exact Iff.rfl
  | cons x L ih =>
    obtain ⟨z, a⟩ := x
    intro kk hC hq
    obtain ⟨hk1, hk2, hk3⟩ := dropG hC
    have hg := hG.2 kk hk1
    rw [hk2] at hg
    have hz : z ≤ 16 := hq (z, a) List.mem_cons_self
    rw [q57_2]
    simp only [q57_3, q57_6, q57_7, q57_8, q57_10, q57_13, q57_16, W_1, W_I, W_mk, W_tk, pm_rv, rf_0_0, rf_0_1, rf_0_2, rf_0_3, rf_0_4, rf_0_7, rf_0_8, rf_1_0, rf_1_2, rf_3_0, rf_3_1, rf_3_6, rf_3_7, rf_3_8, rf_9_0, rf_9_1, rf_10_0, rf_10_1, rf_10_6, rf_10_7, rf_10_8, rf_17_0, rf_17_1, rf_538_2, rf_538_6, rf_538_7, rf_538_9, rf_538_11, rf_538_12, rf_538_18, rf_538_19, rf_538_22, rf_538_23, rf_538_25, rf_538_27, rf_538_28, rf_538_30, rf_538_31, rf_538_32, rf_538_33, rf_538_34, rf_538_35, rf_538_36, ob_0, ob_1, ob_3, ob_9, ob_10, ob_17, ob_538, ar_2, ar_4, ar_5, ar_6, ar_7, ar_8, ar_11, ar_12, ar_13, ar_14, ar_15, ar_16, ar_116, ar_117, ar_539, ar_540, ar_541, ar_542, ar_543, ar_544, ar_545, ar_546, ar_547, ar_548, ar_549, ar_550, ar_551, ar_552, ar_553, ar_554, ar_555, ar_556, ar_557, ar_558, ex_eq, ex_ite, pm_bk_r, pm_bk_t, ol_nil, ol_one, true_and, and_true, false_and, and_false, reduceIte, Nat.reduceEqDiff, up_at, Nat.add_left_cancel_iff, sm_in (show kk < 2147483648 by omega), show kk < 160 by omega, sm_cl (show kk < 2147483648 by omega), hg.1, show (nI z = 17) ↔ False from iff_false_intro (by rw [show (17 : Int32) = nI 17 from rfl, sm_inj (by omega) (by omega)]; omega), sm_s, ih (kk + 1) hk3 (fun q h => hq q (List.mem_cons_of_mem _ h)), List.length_cons]
    rw [show kk + 1 + L.length + 1 = kk + (L.length + 1) + 1 by omega]
theorem c57 {G : Gm} (hG : g_ok G) {I : Nat → Nat → Int32} (hR : GM G I) {r : Nat} (hr : r < G.2.2.2.1.length) {q : pm_Res} : pm_C (d + 1) 57 [.ref 538, .int (nI (g_r G r).2.1)] (Wm I k o) q ↔ q = (.inl (some (.int (nI (g_r G r).2.2))), Wm I k o) := by
  obtain ⟨⟨b, Z, h1, h2, -⟩, -, h4⟩ := hG.2.2.2.2.1 r hr
  rw [n57]
  simp only [q57_0, q57_1]
  rw [c57_l hR.1 _ _ h1 (a_ty_le h2), h4]
/-- a move made -/
theorem c61 {G : Gm} (hG : g_ok G) {P : Pos} {I : Nat → Nat → Int32} {m : Nat × Nat} (hr : m.1 < G.2.2.2.1.length) (hm : m.2 ≤ g_n G) (hR : GM G I) (h : MP 549 0 P I) (ht : I 549 12 = nI P.2.2.2) (hP : PA (g_n G) P) :
    ∃ J, MP 549 0 (a_make G P m) J ∧ J 549 12 = nI (a_make G P m).2.2.2 ∧ PA (g_n G) (a_make G P m) ∧ FM I J ∧ ∀ q, (pm_C (d + 7) 61 [.ref 538, .int (nI m.1), .int (a_ch m.2)] (Wm I k o) q ↔ q = (.inl none, Wm J k o)) := by
  have h8 : G.2.2.2.1.length ≤ 8 := hG.2.2.2.1
  have f0 : FM I (pm_up I 538 29 0) := fun x j _ _ h => up_ne h
  obtain ⟨b, Z, h1, h2, -⟩ := (hG.2.2.2.2.1 m.1 hr).2.1
  obtain ⟨J, g1, g2, g3, g4, g5, g6, g7, g8⟩ := c56 (d := d) (k := k) (o := o) (s := P.2.2.2) (I := pm_up I 538 29 0) hG.2.2.1.1 hG.2.2.1.2 hP.2.2.2 (a_ch_CH hm) h1 h2 (hR.fm f0).1 (hR.fm f0).2.2.1 (h.congr (up_row (by decide))) hP
  have ht0 : pm_up I 538 29 0 549 12 = nI P.2.2.2 := by rw [up_ne (by omega)]; exact ht
  have hturn : (a_make G P m).2.2.2 = if (a_seg G.1 (g_r G m.1).2.2).any (fun q => q.1 == 16) = true then 1 - P.2.2.2 else P.2.2.2 := a_run_turn (a_ty_le h2)
  have hs := hP.2.2.2
  have hg := hR.2.2.2.2.2.2 m.1 hr
  have hru : pm_up I 538 29 0 546 m.1 = nI (g_r G m.1).2.1 := by rw [up_ne (by omega)]; exact hg.2
  have h6 : J 538 29 = if (a_seg G.1 (g_r G m.1).2.2).any (fun q => q.1 == 16) = true then 1 else 0 := by rw [g6, up_eq]
  have e1s : (1 : Int32) - nI P.2.2.2 = nI (1 - P.2.2.2) := by rw [show (1 : Int32) = nI 1 from rfl, sm_sub (by omega)]
  refine ⟨pm_up J 549 12 (nI (a_make G P m).2.2.2), ?_, up_eq, g3, (f0.trans g4).trans FM.u549, fun q => ?_⟩
  · refine MP.mk0 (fun p hp => ⟨by rw [up_ne (by omega)]; exact g1.len hp, fun i hi => by rw [up_ne (by omega)]; exact g1.crd hp hi⟩) (fun j hj => by rw [up_ne (by omega)]; exact g1.cnt hj) (fun j hj => by rw [up_ne (by omega)]; exact g1.sco hj)
  · rw [n61]
    simp (decide := true) only [q61_0, q61_1, q61_4, q61_6, q61_7, q61_8, q61_9, q61_10, q61_13, q61_14, q61_15, q61_16, q61_19, q61_20, q61_21, q61_24, q61_25, q61_26, q61_29, q61_31, q61_32, q61_35, q61_37, q61_38, q61_41, W_1, W_I, W_mk, W_tk, pm_rv, rf_0_0, rf_0_1, rf_0_2, rf_0_3, rf_0_4, rf_0_7, rf_0_8, rf_1_0, rf_1_2, rf_3_0, rf_3_1, rf_3_6, rf_3_7, rf_3_8, rf_9_0, rf_9_1, rf_10_0, rf_10_1, rf_10_6, rf_10_7, rf_10_8, rf_17_0, rf_17_1, rf_538_2, rf_538_6, rf_538_7, rf_538_9, rf_538_11, rf_538_12, rf_538_18, rf_538_19, rf_538_22, rf_538_23, rf_538_25, rf_538_27, rf_538_28, rf_538_30, rf_538_31, rf_538_32, rf_538_33, rf_538_34, rf_538_35, rf_538_36, ob_0, ob_1, ob_3, ob_9, ob_10, ob_17, ob_538, ar_2, ar_4, ar_5, ar_6, ar_7, ar_8, ar_11, ar_12, ar_13, ar_14, ar_15, ar_16, ar_116, ar_117, ar_539, ar_540, ar_541, ar_542, ar_543, ar_544, ar_545, ar_546, ar_547, ar_548, ar_549, ar_550, ar_551, ar_552, ar_553, ar_554, ar_555, ar_556, ar_557, ar_558, ex_eq, ex_ite, pm_bk_r, pm_bk_t, ol_nil, ol_one, true_and, and_true, false_and, and_false, reduceIte, Nat.reduceEqDiff, up_at, Nat.add_left_cancel_iff, sm_in (show 12 < 2147483648 by omega), show vp_in (12 : Int32) 157 ↔ True from iff_true_intro ((sm_in (a := 12) (by omega)).mpr (by omega)), show (12 : Int32).toNatClampNeg = 12 from by decide, ht, sm_in (show m.1 < 2147483648 by omega), show m.1 < 8 by omega, sm_cl (show m.1 < 2147483648 by omega), hru, hg.2, c57 (d := d + 5) hG (hR.fm f0) hr, g8, h6]
    by_cases e : (a_seg G.1 (g_r G m.1).2.2).any (fun q => q.1 == 16) = true
    · rw [if_pos e] at hturn ⊢
      simp (decide := true) only [q61_44, q61_45, q61_46, q61_47, q61_50, q61_51, q61_52, W_1, W_I, W_mk, W_tk, pm_rv, rf_0_0, rf_0_1, rf_0_2, rf_0_3, rf_0_4, rf_0_7, rf_0_8, rf_1_0, rf_1_2, rf_3_0, rf_3_1, rf_3_6, rf_3_7, rf_3_8, rf_9_0, rf_9_1, rf_10_0, rf_10_1, rf_10_6, rf_10_7, rf_10_8, rf_17_0, rf_17_1, rf_538_2, rf_538_6, rf_538_7, rf_538_9, rf_538_11, rf_538_12, rf_538_18, rf_538_19, rf_538_22, rf_538_23, rf_538_25, rf_538_27, rf_538_28, rf_538_30, rf_538_31, rf_538_32, rf_538_33, rf_538_34, rf_538_35, rf_538_36, ob_0, ob_1, ob_3, ob_9, ob_10, ob_17, ob_538, ar_2, ar_4, ar_5, ar_6, ar_7, ar_8, ar_11, ar_12, ar_13, ar_14, ar_15, ar_16, ar_116, ar_117, ar_539, ar_540, ar_541, ar_542, ar_543, ar_544, ar_545, ar_546, ar_547, ar_548, ar_549, ar_550, ar_551, ar_552, ar_553, ar_554, ar_555, ar_556, ar_557, ar_558, ex_eq, ex_ite, pm_bk_r, pm_bk_t, ol_nil, ol_one, true_and, and_true, false_and, and_false, reduceIte, Nat.reduceEqDiff, up_at, Nat.add_left_cancel_iff, e1s, show vp_in (12 : Int32) 157 ↔ True from iff_true_intro ((sm_in (a := 12) (by omega)).mpr (by omega)), show (12 : Int32).toNatClampNeg = 12 from by decide, hturn]
    · rw [if_neg e] at hturn ⊢
      simp (decide := true) only [q61_44, q61_45, q61_46, q61_47, q61_50, q61_51, q61_52, W_1, W_I, W_mk, W_tk, pm_rv, rf_0_0, rf_0_1, rf_0_2, rf_0_3, rf_0_4, rf_0_7, rf_0_8, rf_1_0, rf_1_2, rf_3_0, rf_3_1, rf_3_6, rf_3_7, rf_3_8, rf_9_0, rf_9_1, rf_10_0, rf_10_1, rf_10_6, rf_10_7, rf_10_8, rf_17_0, rf_17_1, rf_538_2, rf_538_6, rf_538_7, rf_538_9, rf_538_11, rf_538_12, rf_538_18, rf_538_19, rf_538_22, rf_538_23, rf_538_25, rf_538_27, rf_538_28, rf_538_30, rf_538_31, rf_538_32, rf_538_33, rf_538_34, rf_538_35, rf_538_36, ob_0, ob_1, ob_3, ob_9, ob_10, ob_17, ob_538, ar_2, ar_4, ar_5, ar_6, ar_7, ar_8, ar_11, ar_12, ar_13, ar_14, ar_15, ar_16, ar_116, ar_117, ar_539, ar_540, ar_541, ar_542, ar_543, ar_544, ar_545, ar_546, ar_547, ar_548, ar_549, ar_550, ar_551, ar_552, ar_553, ar_554, ar_555, ar_556, ar_557, ar_558, ex_eq, ex_ite, pm_bk_r, pm_bk_t, ol_nil, ol_one, true_and, and_true, false_and, and_false, reduceIte, Nat.reduceEqDiff, up_at, Nat.add_left_cancel_iff, show vp_in (12 : Int32) 157 ↔ True from iff_true_intro ((sm_in (a := 12) (by omega)).mpr (by omega)), show (12 : Int32).toNatClampNeg = 12 from by decide, hturn]
end MRN
