/-! THE CLASS: Machine.run -/
/-- the code as the class keeps it -/
def GC (C : List (Nat × Nat)) (I : Nat → Nat → Int32) : Prop := C.length ≤ 160 ∧ I 10 2 = nI C.length ∧ ∀ j, j < C.length → I 11 j = nI (C.getD j (0, 0)).1 ∧ I 12 j = nI (C.getD j (0, 0)).2
theorem GC.fr {t : Nat} (ht : tb t) {C : List (Nat × Nat)} {I J : Nat → Nat → Int32} (h : GC C I) (hf : FR t I J) : GC C J := by
  have := tb_16 ht
  refine ⟨h.1, by rw [hf 10 2 (by omega) (by omega) (by omega)]; exact h.2.1, fun j hj => ?_⟩
  rw [hf 11 j (by omega) (by omega) (by omega), hf 12 j (by omega) (by omega) (by omega)]
  exact h.2.2 j hj
theorem dropG {C L : List (Nat × Nat)} {kk : Nat} {x : Nat × Nat} (h : C.drop kk = x :: L) : kk < C.length ∧ C.getD kk (0, 0) = x ∧ C.drop (kk + 1) = L := by
  have h1 : kk < C.length := by
    refine Nat.lt_of_not_le (fun q => ?_)
    rw [List.drop_eq_nil_of_le q] at h
    cases h
  rw [List.drop_eq_getElem_cons h1] at h
  injection h with h2 h3
  refine ⟨h1, ?_, h3⟩
  rw [List.getD_eq_getElem?_getD, List.getElem?_eq_getElem h1]
  exact h2
theorem a_ty_op {z a h h' : Nat} {L : List (Nat × Nat)} (ht : a_ty ((z, a) :: L) h = some h') : z ≤ 16 ∧ a_arg z a = true ∧ ((z ≤ 4 ∧ a_ty L (h + 1) = some h') ∨ ((5 ≤ z ∧ z ≤ 11) ∧ 2 ≤ h ∧ a_ty L (h - 1) = some h') ∨ (z = 12 ∧ 1 ≤ h ∧ a_ty L h = some h') ∨ ((z = 13 ∨ z = 16) ∧ a_ty L h = some h') ∨ ((z = 14 ∨ z = 15) ∧ 1 ≤ h ∧ a_ty L (h - 1) = some h')) := by
  simp only [a_ty] at ht
  split at ht
  rotate_left
  · cases ht
  rename_i ha
  refine ⟨?_, ha, ?_⟩
  · repeat' split at ht
    all_goals first | omega | cases ht
  · split at ht
    · exact Or.inl ⟨by assumption, ht⟩
    · split at ht
      · split at ht
        · exact Or.inr (Or.inl ⟨⟨by omega, by assumption⟩, by assumption, ht⟩)
        · cases ht
      · split at ht
        · split at ht
          · exact Or.inr (Or.inr (Or.inl ⟨by assumption, by assumption, ht⟩))
          · cases ht
        · split at ht
          · exact Or.inr (Or.inr (Or.inr (Or.inl ⟨Or.inl (by assumption), ht⟩)))
          · split at ht
            · split at ht
              · exact Or.inr (Or.inr (Or.inr (Or.inr ⟨by assumption, by assumption, ht⟩)))
              · cases ht
            · split at ht
              · exact Or.inr (Or.inr (Or.inr (Or.inl ⟨Or.inr (by assumption), ht⟩)))
              · cases ht
section RUN3
variable {d k t : Nat} {o : Int64} {q : pm_Res}
/-- the loop's head, ahead of an instruction -/
theorem c85_h {C : List (Nat × Nat)} {I : Nat → Nat → Int32} {kk z a : Nat} {y0 y2 y3 y4 y6 y7 y8 : Option Value} {r : pm_Res} (hG : GC C I) (hk : kk < C.length) (hx : C.getD kk (0, 0) = (z, a)) (hz : z ≤ 16) :
    pm_R d 85 14 [some (.ref 9), y0, y2, y3, y4, some (.int (nI kk)), y6, y7, y8] [] (Wm I k o) r ↔ pm_R d 85 65 [some (.ref 9), y0, y2, y3, y4, some (.int (nI kk)), some (.int (nI z)), some (.int (nI a)), y8] [] (Wm I k o) r := by
  have h160 := hG.1
  have hg := hG.2.2 kk hk
  rw [hx] at hg
  rw [q85_14]
  simp only [q85_16, q85_17, q85_20, q85_23, q85_26, q85_27, q85_30, q85_33, q85_35, q85_36, q85_38, q85_41, q85_42, q85_45, q85_48, q85_50, q85_51, q85_53, q85_54, q85_57, q85_60, q85_62, q85_63, W_1, W_I, W_mk, W_tk, pm_rv, rf_0_0, rf_0_1, rf_0_2, rf_0_3, rf_0_4, rf_0_7, rf_0_8, rf_1_0, rf_1_2, rf_3_0, rf_3_1, rf_3_6, rf_3_7, rf_3_8, rf_9_0, rf_9_1, rf_10_0, rf_10_1, rf_10_6, rf_10_7, rf_10_8, rf_17_0, rf_17_1, rf_538_2, rf_538_6, rf_538_7, rf_538_9, rf_538_11, rf_538_12, rf_538_18, rf_538_19, rf_538_22, rf_538_23, rf_538_25, rf_538_27, rf_538_28, rf_538_30, rf_538_31, rf_538_32, rf_538_33, rf_538_34, rf_538_35, rf_538_36, ob_0, ob_1, ob_3, ob_9, ob_10, ob_17, ob_538, ar_2, ar_4, ar_5, ar_6, ar_7, ar_8, ar_11, ar_12, ar_13, ar_14, ar_15, ar_16, ar_116, ar_117, ar_539, ar_540, ar_541, ar_542, ar_543, ar_544, ar_545, ar_546, ar_547, ar_548, ar_549, ar_550, ar_551, ar_552, ar_553, ar_554, ar_555, ar_556, ar_557, ar_558, ex_eq, ex_ite, pm_bk_r, pm_bk_t, ol_nil, ol_one, true_and, and_true, false_and, and_false, reduceIte, Nat.reduceEqDiff, up_at, Nat.add_left_cancel_iff, hG.2.1, show (nI kk < nI C.length) ↔ True from iff_true_intro (by rw [sm_lt (by omega) (by omega)]; exact hk), sm_in (show kk < 2147483648 by omega), show kk < 160 by omega, sm_cl (show kk < 2147483648 by omega), hg.1, hg.2, show (nI z = 17) ↔ False from iff_false_intro (by rw [show (17 : Int32) = nI 17 from rfl, sm_inj (by omega) (by omega)]; omega)]
/-- .. ahead of the end -/
theorem c85_e {C : List (Nat × Nat)} {I : Nat → Nat → Int32} {kk a : Nat} {y0 y2 y3 y4 y6 y7 y8 : Option Value} {r : pm_Res} (hG : GC C I) (hk : kk < C.length) (hx : C.getD kk (0, 0) = (17, a)) :
    pm_R d 85 14 [some (.ref 9), y0, y2, y3, y4, some (.int (nI kk)), y6, y7, y8] [] (Wm I k o) r ↔ pm_R d 85 165 [some (.ref 9), y0, y2, y3, y4, some (.int (nI kk)), y6, y7, y8] [] (Wm I k o) r := by
  have h160 := hG.1
  have hg := hG.2.2 kk hk
  rw [hx] at hg
  rw [q85_14]
  simp only [q85_16, q85_17, q85_20, q85_23, q85_26, q85_27, q85_30, q85_33, q85_35, q85_36, q85_38, W_1, W_I, W_mk, W_tk, pm_rv, rf_0_0, rf_0_1, rf_0_2, rf_0_3, rf_0_4, rf_0_7, rf_0_8, rf_1_0, rf_1_2, rf_3_0, rf_3_1, rf_3_6, rf_3_7, rf_3_8, rf_9_0, rf_9_1, rf_10_0, rf_10_1, rf_10_6, rf_10_7, rf_10_8, rf_17_0, rf_17_1, rf_538_2, rf_538_6, rf_538_7, rf_538_9, rf_538_11, rf_538_12, rf_538_18, rf_538_19, rf_538_22, rf_538_23, rf_538_25, rf_538_27, rf_538_28, rf_538_30, rf_538_31, rf_538_32, rf_538_33, rf_538_34, rf_538_35, rf_538_36, ob_0, ob_1, ob_3, ob_9, ob_10, ob_17, ob_538, ar_2, ar_4, ar_5, ar_6, ar_7, ar_8, ar_11, ar_12, ar_13, ar_14, ar_15, ar_16, ar_116, ar_117, ar_539, ar_540, ar_541, ar_542, ar_543, ar_544, ar_545, ar_546, ar_547, ar_548, ar_549, ar_550, ar_551, ar_552, ar_553, ar_554, ar_555, ar_556, ar_557, ar_558, ex_eq, ex_ite, pm_bk_r, pm_bk_t, ol_nil, ol_one, true_and, and_true, false_and, and_false, reduceIte, Nat.reduceEqDiff, up_at, Nat.add_left_cancel_iff, hG.2.1, show (nI kk < nI C.length) ↔ True from iff_true_intro (by rw [sm_lt (by omega) (by omega)]; exact hk), sm_in (show kk < 2147483648 by omega), show kk < 160 by omega, sm_cl (show kk < 2147483648 by omega), hg.1, show (nI 17 = 17) ↔ True from iff_true_intro rfl]
/-- one instruction -/
theorem c85_s (ht : tb t) {I : Nat → Nat → Int32} {P : Pos} {N rk s z a h' : Nat} {c : Int32} {S : List Int32} {L : List (Nat × Nat)} {y2 y5 y8 : Option Value} (h : TR t P I) (hP : PA N P) (hS : SR S I) (hrk : I 10 4 = nI rk) (hr1 : 1 ≤ rk) (hr6 : rk ≤ 6) (hs : s < 2) (hc : CH N c) (hl : S.length < 160) (hty : a_ty ((z, a) :: L) S.length = some h') :
    ∃ J y9, TR t (a_step rk s c z a S P).2 J ∧ SR (a_step rk s c z a S P).1 J ∧ PA N (a_step rk s c z a S P).2 ∧ FR t I J ∧ a_ty L (a_step rk s c z a S P).1.length = some h' ∧ (a_step rk s c z a S P).1.length ≤ S.length + 1 ∧
      ∀ r, (pm_R (d + 3) 85 65 [some (.ref 9), some (.ref t), y2, some (.int c), some (.int (nI s)), y5, some (.int (nI z)), some (.int (nI a)), y8] [] (Wm I k o) r ↔ pm_R (d + 3) 85 159 [some (.ref 9), some (.ref t), y2, some (.int c), some (.int (nI s)), y5, some (.int (nI z)), some (.int (nI a)), y9] [] (Wm J k o) r) := by
  obtain ⟨hz, ha, hcase⟩ := a_ty_op hty
  have h4 : ∀ n : Nat, n < 2147483648 → ((nI n < nI z) ↔ n < z) := fun n hn => sm_lt hn (by omega)
  rcases hcase with ⟨hz4, hty⟩ | ⟨⟨h5, h11⟩, h2, hty⟩ | ⟨rfl, h1, hty⟩ | ⟨hzz, hty⟩ | ⟨hzz, h1, hty⟩
  · have e : a_step rk s c z a S P = (a_opd rk P s c z a :: S, P) := by unfold a_step; rw [if_pos hz4]
    rw [e]
    refine ⟨_, y8, (h.fr16 ht _ _).fr9 ht _, hS.push, hP, FR.up16.trans FR.up9, hty, Nat.le_refl _, fun r => ?_⟩
    simp only [q85_65, q85_67, q85_68, show (4 : Int32) = nI 4 from rfl, h4 4 (by omega), show (4 < z) ↔ False from iff_false_intro (by omega), reduceIte, q85_71, q85_72, q85_73, q85_75, q85_77, q85_78, q85_80, q85_81, q85_84, q85_87, W_1, W_I, W_mk, W_tk, pm_rv, rf_0_0, rf_0_1, rf_0_2, rf_0_3, rf_0_4, rf_0_7, rf_0_8, rf_1_0, rf_1_2, rf_3_0, rf_3_1, rf_3_6, rf_3_7, rf_3_8, rf_9_0, rf_9_1, rf_10_0, rf_10_1, rf_10_6, rf_10_7, rf_10_8, rf_17_0, rf_17_1, rf_538_2, rf_538_6, rf_538_7, rf_538_9, rf_538_11, rf_538_12, rf_538_18, rf_538_19, rf_538_22, rf_538_23, rf_538_25, rf_538_27, rf_538_28, rf_538_30, rf_538_31, rf_538_32, rf_538_33, rf_538_34, rf_538_35, rf_538_36, ob_0, ob_1, ob_3, ob_9, ob_10, ob_17, ob_538, ar_2, ar_4, ar_5, ar_6, ar_7, ar_8, ar_11, ar_12, ar_13, ar_14, ar_15, ar_16, ar_116, ar_117, ar_539, ar_540, ar_541, ar_542, ar_543, ar_544, ar_545, ar_546, ar_547, ar_548, ar_549, ar_550, ar_551, ar_552, ar_553, ar_554, ar_555, ar_556, ar_557, ar_558, ex_eq, ex_ite, pm_bk_r, pm_bk_t, ol_nil, ol_one, true_and, and_true, false_and, and_false, reduceIte, Nat.reduceEqDiff, up_at, Nat.add_left_cancel_iff, c88 ht h hrk hr1 hr6 hs hz4 ha, c86 hS hl]
  · match S, h2, hS, hl, hty with
    | y :: x :: S, h2, hS, hl, hty =>
      have e : a_step rk s c z a (y :: x :: S) P = (a_comb z x y :: S, P) := by unfold a_step; rw [if_neg (by omega), if_pos h11]
      rw [e]
      have hl' : S.length + 2 < 160 := hl
      have hS1 := hS.pop
      have hS2 := hS1.pop
      refine ⟨_, some (.int y), (((h.fr9 ht _).fr9 ht _).fr16 ht _ _).fr9 ht _, hS2.push, hP, ((FR.up9.trans FR.up9).trans FR.up16).trans FR.up9, by simpa using hty, by simp, fun r => ?_⟩
      simp only [q85_65, q85_67, q85_68, show (4 : Int32) = nI 4 from rfl, h4 4 (by omega), show (4 < z) ↔ True from iff_true_intro (by omega), reduceIte, q85_90, q85_92, q85_94, show (11 : Int32) = nI 11 from rfl, h4 11 (by omega), show (11 < z) ↔ False from iff_false_intro (by omega), q85_97, q85_98, q85_101, q85_103, q85_104, q85_106, q85_107, q85_110, q85_112, q85_115, q85_118, W_1, W_I, W_mk, W_tk, pm_rv, rf_0_0, rf_0_1, rf_0_2, rf_0_3, rf_0_4, rf_0_7, rf_0_8, rf_1_0, rf_1_2, rf_3_0, rf_3_1, rf_3_6, rf_3_7, rf_3_8, rf_9_0, rf_9_1, rf_10_0, rf_10_1, rf_10_6, rf_10_7, rf_10_8, rf_17_0, rf_17_1, rf_538_2, rf_538_6, rf_538_7, rf_538_9, rf_538_11, rf_538_12, rf_538_18, rf_538_19, rf_538_22, rf_538_23, rf_538_25, rf_538_27, rf_538_28, rf_538_30, rf_538_31, rf_538_32, rf_538_33, rf_538_34, rf_538_35, rf_538_36, ob_0, ob_1, ob_3, ob_9, ob_10, ob_17, ob_538, ar_2, ar_4, ar_5, ar_6, ar_7, ar_8, ar_11, ar_12, ar_13, ar_14, ar_15, ar_16, ar_116, ar_117, ar_539, ar_540, ar_541, ar_542, ar_543, ar_544, ar_545, ar_546, ar_547, ar_548, ar_549, ar_550, ar_551, ar_552, ar_553, ar_554, ar_555, ar_556, ar_557, ar_558, ex_eq, ex_ite, pm_bk_r, pm_bk_t, ol_nil, ol_one, true_and, and_true, false_and, and_false, reduceIte, Nat.reduceEqDiff, up_at, Nat.add_left_cancel_iff, c87 hS (show (x :: S).length < 160 by simp; omega), c87 hS1 (show S.length < 160 by omega), c89 h5 h11, c86 hS2 (show S.length < 160 by omega)]
  · match S, h1, hS, hl, hty with
    | x :: S, h1, hS, hl, hty =>
      have e : a_step rk s c 12 a (x :: S) P = ((if x = 0 then 1 else 0) :: S, P) := by unfold a_step; rw [if_neg (by omega), if_neg (by omega), if_pos rfl]
      rw [e]
      have hl' : S.length + 1 < 160 := hl
      have hS1 := hS.pop
      refine ⟨_, y8, ((h.fr9 ht _).fr16 ht _ _).fr9 ht _, hS1.push, hP, (FR.up9.trans FR.up16).trans FR.up9, hty, by simp, fun r => ?_⟩
      simp (decide := true) only [q85_65, q85_67, q85_68, reduceIte, q85_90, q85_92, q85_94, q85_121, q85_123, q85_125, q85_128, q85_129, q85_130, W_1, W_I, W_mk, W_tk, pm_rv, rf_0_0, rf_0_1, rf_0_2, rf_0_3, rf_0_4, rf_0_7, rf_0_8, rf_1_0, rf_1_2, rf_3_0, rf_3_1, rf_3_6, rf_3_7, rf_3_8, rf_9_0, rf_9_1, rf_10_0, rf_10_1, rf_10_6, rf_10_7, rf_10_8, rf_17_0, rf_17_1, rf_538_2, rf_538_6, rf_538_7, rf_538_9, rf_538_11, rf_538_12, rf_538_18, rf_538_19, rf_538_22, rf_538_23, rf_538_25, rf_538_27, rf_538_28, rf_538_30, rf_538_31, rf_538_32, rf_538_33, rf_538_34, rf_538_35, rf_538_36, ob_0, ob_1, ob_3, ob_9, ob_10, ob_17, ob_538, ar_2, ar_4, ar_5, ar_6, ar_7, ar_8, ar_11, ar_12, ar_13, ar_14, ar_15, ar_16, ar_116, ar_117, ar_539, ar_540, ar_541, ar_542, ar_543, ar_544, ar_545, ar_546, ar_547, ar_548, ar_549, ar_550, ar_551, ar_552, ar_553, ar_554, ar_555, ar_556, ar_557, ar_558, ex_eq, ex_ite, pm_bk_r, pm_bk_t, ol_nil, ol_one, true_and, and_true, false_and, and_false, reduceIte, Nat.reduceEqDiff, up_at, Nat.add_left_cancel_iff, c87 hS (show S.length < 160 by omega)]
      by_cases hx : x = 0 <;> simp only [hx, q85_133, q85_136, q85_137, q85_140, q85_141, q85_144, W_1, W_I, W_mk, W_tk, pm_rv, rf_0_0, rf_0_1, rf_0_2, rf_0_3, rf_0_4, rf_0_7, rf_0_8, rf_1_0, rf_1_2, rf_3_0, rf_3_1, rf_3_6, rf_3_7, rf_3_8, rf_9_0, rf_9_1, rf_10_0, rf_10_1, rf_10_6, rf_10_7, rf_10_8, rf_17_0, rf_17_1, rf_538_2, rf_538_6, rf_538_7, rf_538_9, rf_538_11, rf_538_12, rf_538_18, rf_538_19, rf_538_22, rf_538_23, rf_538_25, rf_538_27, rf_538_28, rf_538_30, rf_538_31, rf_538_32, rf_538_33, rf_538_34, rf_538_35, rf_538_36, ob_0, ob_1, ob_3, ob_9, ob_10, ob_17, ob_538, ar_2, ar_4, ar_5, ar_6, ar_7, ar_8, ar_11, ar_12, ar_13, ar_14, ar_15, ar_16, ar_116, ar_117, ar_539, ar_540, ar_541, ar_542, ar_543, ar_544, ar_545, ar_546, ar_547, ar_548, ar_549, ar_550, ar_551, ar_552, ar_553, ar_554, ar_555, ar_556, ar_557, ar_558, ex_eq, ex_ite, pm_bk_r, pm_bk_t, ol_nil, ol_one, true_and, and_true, false_and, and_false, reduceIte, Nat.reduceEqDiff, up_at, Nat.add_left_cancel_iff, c86 hS1 (show S.length < 160 by omega)]
  · obtain ⟨J, g1, g2, g3, g4, g5⟩ := c90 (d := d) (k := k) (o := o) (rk := rk) ht h hP hS hs hc (show 13 ≤ z by omega) hz ha (fun q => by omega) (by omega)
    have e : (a_step rk s c z a S P).1 = S := by
      unfold a_step
      rw [if_neg (by omega), if_neg (by omega), if_neg (by omega)]
      rcases hzz with rfl | rfl
      · rw [if_pos rfl]; split <;> rfl
      · rw [if_neg (by omega), if_neg (by omega), if_neg (by omega)]
    refine ⟨J, y8, g1, g2, g3, g4, by rw [e]; exact hty, by rw [e]; omega, fun r => ?_⟩
    simp only [q85_65, q85_67, q85_68, show (4 : Int32) = nI 4 from rfl, h4 4 (by omega), show (4 < z) ↔ True from iff_true_intro (by omega), reduceIte, q85_90, q85_92, q85_94, show (11 : Int32) = nI 11 from rfl, h4 11 (by omega), show (11 < z) ↔ True from iff_true_intro (by omega), q85_121, q85_123, q85_125, show (nI z = 12) ↔ False from iff_false_intro (by rw [show (12 : Int32) = nI 12 from rfl, sm_inj (by omega) (by omega)]; omega), q85_147, q85_148, q85_150, q85_152, q85_153, q85_155, q85_156, W_1, W_I, W_mk, W_tk, pm_rv, rf_0_0, rf_0_1, rf_0_2, rf_0_3, rf_0_4, rf_0_7, rf_0_8, rf_1_0, rf_1_2, rf_3_0, rf_3_1, rf_3_6, rf_3_7, rf_3_8, rf_9_0, rf_9_1, rf_10_0, rf_10_1, rf_10_6, rf_10_7, rf_10_8, rf_17_0, rf_17_1, rf_538_2, rf_538_6, rf_538_7, rf_538_9, rf_538_11, rf_538_12, rf_538_18, rf_538_19, rf_538_22, rf_538_23, rf_538_25, rf_538_27, rf_538_28, rf_538_30, rf_538_31, rf_538_32, rf_538_33, rf_538_34, rf_538_35, rf_538_36, ob_0, ob_1, ob_3, ob_9, ob_10, ob_17, ob_538, ar_2, ar_4, ar_5, ar_6, ar_7, ar_8, ar_11, ar_12, ar_13, ar_14, ar_15, ar_16, ar_116, ar_117, ar_539, ar_540, ar_541, ar_542, ar_543, ar_544, ar_545, ar_546, ar_547, ar_548, ar_549, ar_550, ar_551, ar_552, ar_553, ar_554, ar_555, ar_556, ar_557, ar_558, ex_eq, ex_ite, pm_bk_r, pm_bk_t, ol_nil, ol_one, true_and, and_true, false_and, and_false, reduceIte, Nat.reduceEqDiff, up_at, Nat.add_left_cancel_iff, g5]
  · obtain ⟨J, g1, g2, g3, g4, g5⟩ := c90 (d := d) (k := k) (o := o) (rk := rk) ht h hP hS hs hc (show 13 ≤ z by omega) hz ha (fun q => h1) (by omega)
    have e : (a_step rk s c z a S P).1.length = S.length - 1 := by
      match S, h1 with
      | x :: S, h1 =>
        unfold a_step
        rw [if_neg (by omega), if_neg (by omega), if_neg (by omega), if_neg (by omega)]
        rcases hzz with rfl | rfl
        · rw [if_pos rfl]; rfl
        · rw [if_neg (by omega), if_pos rfl]; rfl
    refine ⟨J, y8, g1, g2, g3, g4, by rw [e]; exact hty, by rw [e]; omega, fun r => ?_⟩
    simp only [q85_65, q85_67, q85_68, show (4 : Int32) = nI 4 from rfl, h4 4 (by omega), show (4 < z) ↔ True from iff_true_intro (by omega), reduceIte, q85_90, q85_92, q85_94, show (11 : Int32) = nI 11 from rfl, h4 11 (by omega), show (11 < z) ↔ True from iff_true_intro (by omega), q85_121, q85_123, q85_125, show (nI z = 12) ↔ False from iff_false_intro (by rw [show (12 : Int32) = nI 12 from rfl, sm_inj (by omega) (by omega)]; omega), q85_147, q85_148, q85_150, q85_152, q85_153, q85_155, q85_156, W_1, W_I, W_mk, W_tk, pm_rv, rf_0_0, rf_0_1, rf_0_2, rf_0_3, rf_0_4, rf_0_7, rf_0_8, rf_1_0, rf_1_2, rf_3_0, rf_3_1, rf_3_6, rf_3_7, rf_3_8, rf_9_0, rf_9_1, rf_10_0, rf_10_1, rf_10_6, rf_10_7, rf_10_8, rf_17_0, rf_17_1, rf_538_2, rf_538_6, rf_538_7, rf_538_9, rf_538_11, rf_538_12, rf_538_18, rf_538_19, rf_538_22, rf_538_23, rf_538_25, rf_538_27, rf_538_28, rf_538_30, rf_538_31, rf_538_32, rf_538_33, rf_538_34, rf_538_35, rf_538_36, ob_0, ob_1, ob_3, ob_9, ob_10, ob_17, ob_538, ar_2, ar_4, ar_5, ar_6, ar_7, ar_8, ar_11, ar_12, ar_13, ar_14, ar_15, ar_16, ar_116, ar_117, ar_539, ar_540, ar_541, ar_542, ar_543, ar_544, ar_545, ar_546, ar_547, ar_548, ar_549, ar_550, ar_551, ar_552, ar_553, ar_554, ar_555, ar_556, ar_557, ar_558, ex_eq, ex_ite, pm_bk_r, pm_bk_t, ol_nil, ol_one, true_and, and_true, false_and, and_false, reduceIte, Nat.reduceEqDiff, up_at, Nat.add_left_cancel_iff, g5]
theorem c85_l (ht : tb t) {C Z : List (Nat × Nat)} {N rk s h' b : Nat} {c : Int32} (hr1 : 1 ≤ rk) (hr6 : rk ≤ 6) (hs : s < 2) (hc : CH N c) : ∀ (L : List (Nat × Nat)) (kk : Nat) (S : List Int32) (P : Pos) (I : Nat → Nat → Int32) (y2 y6 y7 y8 : Option Value),
    C.drop kk = L ++ (17, b) :: Z → a_ty L S.length = some h' → GC C I → I 10 4 = nI rk → TR t P I → PA N P → SR S I → S.length ≤ kk →
    ∃ J y5 z6 z7 z8, TR t (a_run rk s c L S P).2 J ∧ SR (a_run rk s c L S P).1 J ∧ PA N (a_run rk s c L S P).2 ∧ FR t I J ∧ (a_run rk s c L S P).1.length = h' ∧ (a_run rk s c L S P).1.length ≤ 159 ∧
      ∀ r, (pm_R (d + 3) 85 14 [some (.ref 9), some (.ref t), y2, some (.int c), some (.int (nI s)), some (.int (nI kk)), y6, y7, y8] [] (Wm I k o) r ↔ pm_R (d + 3) 85 165 [some (.ref 9), some (.ref t), y2, some (.int c), some (.int (nI s)), y5, z6, z7, z8] [] (Wm J k o) r) := by
  intro L
  induction L with
  | nil =>
    intro kk S P I y2 y6 y7 y8 hC hty hG hrk h hP hS hl
    obtain ⟨h1, h2, -⟩ := dropG hC
    have h160 := hG.1
    simp only [a_ty, Option.some.injEq] at hty
    exact ⟨I, _, _, _, _, h, hS, hP, FR.refl, hty, by show S.length ≤ 159; omega, fun r => c85_e hG h1 h2⟩
  | cons x L ih =>
    intro kk S P I y2 y6 y7 y8 hC hty hG hrk h hP hS hl
    obtain ⟨z, a⟩ := x
    obtain ⟨h1, h2, h3⟩ := dropG hC
    have h160 := hG.1
    obtain ⟨J, y9, g1, g2, g3, g4, g5, g6, g7⟩ := c85_s (d := d) (k := k) (o := o) (y2 := y2) (y5 := some (.int (nI kk))) (y8 := y8) ht h hP hS hrk hr1 hr6 hs hc (by omega) hty
    have hrk' : J 10 4 = nI rk := by
      rw [g4 10 4 (by omega) (by omega) (by have := tb_16 ht; omega)]; exact hrk
    obtain ⟨K, y5, z6, z7, z8, k1, k2, k3, k4, k5, k6, k7⟩ := ih (kk + 1) _ _ J y2 (some (.int (nI z))) (some (.int (nI a))) y9 h3 g5 (hG.fr ht g4) hrk' g1 g3 g2 (by omega)
    refine ⟨K, y5, z6, z7, z8, k1, k2, k3, g4.trans k4, k5, k6, fun r => ?_⟩
    rw [c85_h hG h1 h2 (a_ty_op hty).1, g7, ← k7]
    simp only [q85_159, q85_162, sm_s]
/-- run, whole -/
theorem c85 (ht : tb t) {C Z L : List (Nat × Nat)} {N rk kk b : Nat} {c : Int32} {P : Pos} {I : Nat → Nat → Int32} (hr1 : 1 ≤ rk) (hr6 : rk ≤ 6) (hc : CH N c) (hC : C.drop kk = L ++ (17, b) :: Z) (hG : GC C I) (hrk : I 10 4 = nI rk) (h : TR t P I) (hP : PA N P) :
    (a_ty L 0 = some 1 → ∃ J x, (a_run rk P.2.2.2 c L [] P).1 = [x] ∧ TR t (a_run rk P.2.2.2 c L [] P).2 J ∧ PA N (a_run rk P.2.2.2 c L [] P).2 ∧ FR t I J ∧ ∀ q, (pm_C (d + 4) 85 [.ref 9, .ref t, .int (nI kk), .int c] (Wm I k o) q ↔ q = (.inl (some (.int x)), Wm J k o))) ∧
    (a_ty L 0 = some 0 → ∃ J, TR t (a_run rk P.2.2.2 c L [] P).2 J ∧ PA N (a_run rk P.2.2.2 c L [] P).2 ∧ FR t I J ∧ ∀ q, (pm_C (d + 4) 85 [.ref 9, .ref t, .int (nI kk), .int c] (Wm I k o) q ↔ q = (.inl (some (.int 0)), Wm J k o))) := by
  have ht0 := h.2.2.2.2.2
  have hs := hP.2.2.2
  have hrk' : pm_up I 9 2 0 10 4 = nI rk := by rw [up_ne (fun q => by omega)]; exact hrk
  have hG' : GC C (pm_up I 9 2 0) := hG.fr ht FR.up9
  have hS : SR [] (pm_up I 9 2 0) := ⟨up_eq, fun j hj => by cases hj⟩
  have e1 : ∀ q, (pm_C (d + 4) 85 [.ref 9, .ref t, .int (nI kk), .int c] (Wm I k o) q ↔ pm_R (d + 3) 85 14 [some (.ref 9), some (.ref t), some (.int (nI kk)), some (.int c), some (.int (nI P.2.2.2)), some (.int (nI kk)), none, none, none] [] (Wm (pm_up I 9 2 0) k o) q) := by
    intro q
    rw [n85]
    simp only [q85_0, q85_1, q85_4, q85_6, q85_7, q85_8, q85_11, q85_12, W_1, W_I, W_mk, W_tk, pm_rv, rf_0_0, rf_0_1, rf_0_2, rf_0_3, rf_0_4, rf_0_7, rf_0_8, rf_1_0, rf_1_2, rf_3_0, rf_3_1, rf_3_6, rf_3_7, rf_3_8, rf_9_0, rf_9_1, rf_10_0, rf_10_1, rf_10_6, rf_10_7, rf_10_8, rf_17_0, rf_17_1, rf_538_2, rf_538_6, rf_538_7, rf_538_9, rf_538_11, rf_538_12, rf_538_18, rf_538_19, rf_538_22, rf_538_23, rf_538_25, rf_538_27, rf_538_28, rf_538_30, rf_538_31, rf_538_32, rf_538_33, rf_538_34, rf_538_35, rf_538_36, ob_0, ob_1, ob_3, ob_9, ob_10, ob_17, ob_538, ar_2, ar_4, ar_5, ar_6, ar_7, ar_8, ar_11, ar_12, ar_13, ar_14, ar_15, ar_16, ar_116, ar_117, ar_539, ar_540, ar_541, ar_542, ar_543, ar_544, ar_545, ar_546, ar_547, ar_548, ar_549, ar_550, ar_551, ar_552, ar_553, ar_554, ar_555, ar_556, ar_557, ar_558, ob_t ht, rt_0 ht, at_0 ht, rt_1 ht, at_1 ht, rt_2 ht, at_2 ht, rt_3 ht, at_3 ht, rt_4 ht, at_4 ht, rt_5 ht, at_5 ht, ex_eq, ex_ite, pm_bk_r, pm_bk_t, ol_nil, ol_one, true_and, and_true, false_and, and_false, reduceIte, Nat.reduceEqDiff, up_at, Nat.add_left_cancel_iff, ht0]
  constructor
  · intro hty
    obtain ⟨J, y5, z6, z7, z8, g1, g2, g3, g4, g5, g6, g7⟩ := c85_l (d := d) (k := k) (o := o) ht hr1 hr6 hs hc L kk [] P (pm_up I 9 2 0) (some (.int (nI kk))) none none none hC hty hG' hrk' (h.fr9 ht 0) hP hS (by simp)
    match e : (a_run rk P.2.2.2 c L [] P).1, g5 with
    | [x], _ =>
      rw [e] at g2
      refine ⟨pm_up J 9 2 0, x, rfl, g1.fr9 ht _, g3, (FR.up9.trans g4).trans FR.up9, fun q => ?_⟩
      rw [e1, g7]
      simp only [q85_165, q85_166, q85_169, W_1, W_I, W_mk, W_tk, pm_rv, rf_0_0, rf_0_1, rf_0_2, rf_0_3, rf_0_4, rf_0_7, rf_0_8, rf_1_0, rf_1_2, rf_3_0, rf_3_1, rf_3_6, rf_3_7, rf_3_8, rf_9_0, rf_9_1, rf_10_0, rf_10_1, rf_10_6, rf_10_7, rf_10_8, rf_17_0, rf_17_1, rf_538_2, rf_538_6, rf_538_7, rf_538_9, rf_538_11, rf_538_12, rf_538_18, rf_538_19, rf_538_22, rf_538_23, rf_538_25, rf_538_27, rf_538_28, rf_538_30, rf_538_31, rf_538_32, rf_538_33, rf_538_34, rf_538_35, rf_538_36, ob_0, ob_1, ob_3, ob_9, ob_10, ob_17, ob_538, ar_2, ar_4, ar_5, ar_6, ar_7, ar_8, ar_11, ar_12, ar_13, ar_14, ar_15, ar_16, ar_116, ar_117, ar_539, ar_540, ar_541, ar_542, ar_543, ar_544, ar_545, ar_546, ar_547, ar_548, ar_549, ar_550, ar_551, ar_552, ar_553, ar_554, ar_555, ar_556, ar_557, ar_558, ex_eq, ex_ite, pm_bk_r, pm_bk_t, ol_nil, ol_one, true_and, and_true, false_and, and_false, reduceIte, Nat.reduceEqDiff, up_at, Nat.add_left_cancel_iff, c87 g2 (show ([] : List Int32).length < 160 by simp), List.length_nil, nI0]
  · intro hty
    obtain ⟨J, y5, z6, z7, z8, g1, g2, g3, g4, g5, g6, g7⟩ := c85_l (d := d) (k := k) (o := o) ht hr1 hr6 hs hc L kk [] P (pm_up I 9 2 0) (some (.int (nI kk))) none none none hC hty hG' hrk' (h.fr9 ht 0) hP hS (by simp)
    refine ⟨J, g1, g3, FR.up9.trans g4, fun q => ?_⟩
    rw [e1, g7]
    have e2 : J 9 2 = 0 := by rw [g2.1, g5]; rfl
    have e3 : pm_C (d + 3) 87 [.ref 9] (Wm J k o) = fun q => q = (.inl (some (.int 0)), Wm J k o) := by
      funext q
      rw [n87]
      simp only [q87_0, q87_1, q87_4, q87_7, q87_8, W_1, W_I, W_mk, W_tk, pm_rv, rf_0_0, rf_0_1, rf_0_2, rf_0_3, rf_0_4, rf_0_7, rf_0_8, rf_1_0, rf_1_2, rf_3_0, rf_3_1, rf_3_6, rf_3_7, rf_3_8, rf_9_0, rf_9_1, rf_10_0, rf_10_1, rf_10_6, rf_10_7, rf_10_8, rf_17_0, rf_17_1, rf_538_2, rf_538_6, rf_538_7, rf_538_9, rf_538_11, rf_538_12, rf_538_18, rf_538_19, rf_538_22, rf_538_23, rf_538_25, rf_538_27, rf_538_28, rf_538_30, rf_538_31, rf_538_32, rf_538_33, rf_538_34, rf_538_35, rf_538_36, ob_0, ob_1, ob_3, ob_9, ob_10, ob_17, ob_538, ar_2, ar_4, ar_5, ar_6, ar_7, ar_8, ar_11, ar_12, ar_13, ar_14, ar_15, ar_16, ar_116, ar_117, ar_539, ar_540, ar_541, ar_542, ar_543, ar_544, ar_545, ar_546, ar_547, ar_548, ar_549, ar_550, ar_551, ar_552, ar_553, ar_554, ar_555, ar_556, ar_557, ar_558, ex_eq, ex_ite, pm_bk_r, pm_bk_t, ol_nil, ol_one, true_and, and_true, false_and, and_false, reduceIte, Nat.reduceEqDiff, up_at, Nat.add_left_cancel_iff, e2]
    simp only [q85_165, q85_166, q85_169, W_1, W_I, W_mk, W_tk, pm_rv, rf_0_0, rf_0_1, rf_0_2, rf_0_3, rf_0_4, rf_0_7, rf_0_8, rf_1_0, rf_1_2, rf_3_0, rf_3_1, rf_3_6, rf_3_7, rf_3_8, rf_9_0, rf_9_1, rf_10_0, rf_10_1, rf_10_6, rf_10_7, rf_10_8, rf_17_0, rf_17_1, rf_538_2, rf_538_6, rf_538_7, rf_538_9, rf_538_11, rf_538_12, rf_538_18, rf_538_19, rf_538_22, rf_538_23, rf_538_25, rf_538_27, rf_538_28, rf_538_30, rf_538_31, rf_538_32, rf_538_33, rf_538_34, rf_538_35, rf_538_36, ob_0, ob_1, ob_3, ob_9, ob_10, ob_17, ob_538, ar_2, ar_4, ar_5, ar_6, ar_7, ar_8, ar_11, ar_12, ar_13, ar_14, ar_15, ar_16, ar_116, ar_117, ar_539, ar_540, ar_541, ar_542, ar_543, ar_544, ar_545, ar_546, ar_547, ar_548, ar_549, ar_550, ar_551, ar_552, ar_553, ar_554, ar_555, ar_556, ar_557, ar_558, ex_eq, ex_ite, pm_bk_r, pm_bk_t, ol_nil, ol_one, true_and, and_true, false_and, and_false, reduceIte, Nat.reduceEqDiff, up_at, Nat.add_left_cancel_iff, e3]
end RUN3
