/-! THE CLASS: Machine.run -/
section RUN
variable {d k t : Nat} {o : Int64} {I : Nat → Nat → Int32} {q : pm_Res}
theorem a_place_lt {z s : Nat} (hs : s < 2) : a_place z s < 6 := by
  unfold a_place
  repeat' split
  all_goals omega
theorem c91 {z s : Nat} (hz : z < 6) (hs : s < 2) {M : pm_Mem} : pm_C (d + 1) 91 [.int (nI z), .int (nI s)] M q ↔ q = (.inl (some (.int (nI (a_place z s)))), M) := by
  rw [n91]
  rcases (show s = 0 ∨ s = 1 by omega) with rfl | rfl <;> rcases (show z = 0 ∨ z = 1 ∨ z = 2 ∨ z = 3 ∨ z = 4 ∨ z = 5 by omega) with rfl | rfl | rfl | rfl | rfl | rfl <;> (simp (decide := true) only [q91_0, q91_1, q91_36, q91_37, q91_38, q91_39, q91_40, q91_41, q91_42, q91_43, q91_44, q91_45, q91_46, q91_47, q91_48, q91_49, q91_50, q91_51, q91_52, q91_53, reduceIte]; exact Iff.rfl)
/-- the stack, its top first -/
def SR (S : List Int32) (I : Nat → Nat → Int32) : Prop := I 9 2 = nI S.length ∧ ∀ j, j < S.length → I 16 j = S.reverse.getD j 0
theorem c86 {S : List Int32} {x : Int32} (h : SR S I) (hl : S.length < 160) : pm_C (d + 1) 86 [.ref 9, .int x] (Wm I k o) q ↔ q = (.inl none, Wm (pm_up (pm_up I 16 S.length x) 9 2 (nI (S.length + 1))) k o) := by
  rw [n86]
  have e : nI (pm_sh 16).2 = nI 160 := by decide +kernel
  simp only [q86_0, q86_1, q86_4, q86_5, q86_8, q86_9, q86_12, q86_13, q86_16, q86_17, q86_20, q86_21, q86_22, q86_23, q86_24, q86_27, q86_28, q86_29, q86_32, W_1, W_I, W_mk, W_tk, pm_rv, rf_0_0, rf_0_1, rf_0_2, rf_0_3, rf_0_4, rf_0_7, rf_0_8, rf_1_0, rf_1_2, rf_3_0, rf_3_1, rf_3_6, rf_3_7, rf_3_8, rf_9_0, rf_9_1, rf_10_0, rf_10_1, rf_10_6, rf_10_7, rf_10_8, rf_17_0, rf_17_1, rf_538_2, rf_538_6, rf_538_7, rf_538_9, rf_538_11, rf_538_12, rf_538_18, rf_538_19, rf_538_22, rf_538_23, rf_538_25, rf_538_27, rf_538_28, rf_538_30, rf_538_31, rf_538_32, rf_538_33, rf_538_34, rf_538_35, rf_538_36, ob_0, ob_1, ob_3, ob_9, ob_10, ob_17, ob_538, ar_2, ar_4, ar_5, ar_6, ar_7, ar_8, ar_11, ar_12, ar_13, ar_14, ar_15, ar_16, ar_116, ar_117, ar_539, ar_540, ar_541, ar_542, ar_543, ar_544, ar_545, ar_546, ar_547, ar_548, ar_549, ar_550, ar_551, ar_552, ar_553, ar_554, ar_555, ar_556, ar_557, ar_558, ex_eq, ex_ite, pm_bk_r, pm_bk_t, ol_nil, ol_one, true_and, and_true, false_and, and_false, reduceIte, Nat.reduceEqDiff, up_at, Nat.add_left_cancel_iff, h.1, e, show (nI S.length < nI 160) ↔ True from iff_true_intro (by rw [sm_lt (by omega) (by omega)]; exact hl), sm_in (show S.length < 2147483648 by omega), hl, sm_cl (show S.length < 2147483648 by omega), sm_s, show 16 < 560 by decide, show ¬ ((pm_sh 16).1 = 0) from by decide +kernel, not_false_eq_true]
theorem SR.push {S : List Int32} {x : Int32} (h : SR S I) : SR (x :: S) (pm_up (pm_up I 16 S.length x) 9 2 (nI (S.length + 1))) := by
  refine ⟨by rw [up_eq]; rfl, fun j hj => ?_⟩
  rw [up_ne (fun q => by omega), List.reverse_cons]
  by_cases e : j = S.length
  · subst e
    rw [up_eq, List.getD_eq_getElem?_getD, List.getElem?_append_right (by simp)]
    simp
  · have hj' : j < S.length := by simp at hj; omega
    rw [up_ne (fun q => e q.2), h.2 j hj', List.getD_eq_getElem?_getD, List.getD_eq_getElem?_getD, List.getElem?_append_left (by simpa using hj')]
theorem c87 {S : List Int32} {x : Int32} (h : SR (x :: S) I) (hl : S.length < 160) : pm_C (d + 1) 87 [.ref 9] (Wm I k o) q ↔ q = (.inl (some (.int x)), Wm (pm_up I 9 2 (nI S.length)) k o) := by
  rw [n87]
  have h1 : I 9 2 = nI (S.length + 1) := h.1
  have h2 : I 16 S.length = x := by
    rw [h.2 S.length (by simp), List.reverse_cons, List.getD_eq_getElem?_getD, List.getElem?_append_right (by simp)]
    simp
  have e : nI (S.length + 1) - 1 = nI S.length := by rw [show (1 : Int32) = nI 1 from rfl, sm_sub (by omega)]; rfl
  simp only [q87_0, q87_1, q87_4, q87_7, q87_8, q87_9, q87_10, q87_11, q87_14, q87_15, q87_16, q87_19, q87_20, q87_23, q87_24, q87_27, q87_28, W_1, W_I, W_mk, W_tk, pm_rv, rf_0_0, rf_0_1, rf_0_2, rf_0_3, rf_0_4, rf_0_7, rf_0_8, rf_1_0, rf_1_2, rf_3_0, rf_3_1, rf_3_6, rf_3_7, rf_3_8, rf_9_0, rf_9_1, rf_10_0, rf_10_1, rf_10_6, rf_10_7, rf_10_8, rf_17_0, rf_17_1, rf_538_2, rf_538_6, rf_538_7, rf_538_9, rf_538_11, rf_538_12, rf_538_18, rf_538_19, rf_538_22, rf_538_23, rf_538_25, rf_538_27, rf_538_28, rf_538_30, rf_538_31, rf_538_32, rf_538_33, rf_538_34, rf_538_35, rf_538_36, ob_0, ob_1, ob_3, ob_9, ob_10, ob_17, ob_538, ar_2, ar_4, ar_5, ar_6, ar_7, ar_8, ar_11, ar_12, ar_13, ar_14, ar_15, ar_16, ar_116, ar_117, ar_539, ar_540, ar_541, ar_542, ar_543, ar_544, ar_545, ar_546, ar_547, ar_548, ar_549, ar_550, ar_551, ar_552, ar_553, ar_554, ar_555, ar_556, ar_557, ar_558, ex_eq, ex_ite, pm_bk_r, pm_bk_t, ol_nil, ol_one, true_and, and_true, false_and, and_false, reduceIte, Nat.reduceEqDiff, up_at, Nat.add_left_cancel_iff, h1, show (nI (S.length + 1) = 0) ↔ False from iff_false_intro (by rw [show (0 : Int32) = nI 0 from rfl, sm_inj (by omega) (by omega)]; omega), e, sm_in (show S.length < 2147483648 by omega), hl, sm_cl (show S.length < 2147483648 by omega), h2]
theorem SR.pop {S : List Int32} {x : Int32} (h : SR (x :: S) I) : SR S (pm_up I 9 2 (nI S.length)) := by
  refine ⟨up_eq, fun j hj => ?_⟩
  rw [up_ne (fun q => by omega), h.2 j (by simp; omega), List.reverse_cons, List.getD_eq_getElem?_getD, List.getD_eq_getElem?_getD, List.getElem?_append_left (by simpa using hj)]
theorem c89 {z : Nat} {x y : Int32} (h5 : 5 ≤ z) (h11 : z ≤ 11) {M : pm_Mem} : pm_C (d + 1) 89 [.int (nI z), .int x, .int y] M q ↔ q = (.inl (some (.int (a_comb z x y))), M) := by
  rw [n89]
  rcases (show z = 5 ∨ z = 6 ∨ z = 7 ∨ z = 8 ∨ z = 9 ∨ z = 10 ∨ z = 11 by omega) with rfl | rfl | rfl | rfl | rfl | rfl | rfl <;> (simp (decide := true) only [q89_0, q89_1, q89_40, q89_41, q89_42, q89_43, q89_44, q89_45, q89_46, q89_47, q89_48, q89_49, q89_50, q89_51, q89_52, q89_53, q89_54, q89_57, q89_58, q89_61, q89_62, q89_63, q89_64, q89_65, q89_68, q89_69, q89_72, q89_73, q89_74, q89_75, q89_78, q89_79, q89_82, q89_83, q89_86, q89_87, q89_88, q89_89, q89_92, q89_93, q89_96, q89_97, q89_100, q89_101, reduceIte, a_comb])
  · split <;> exact Iff.rfl
  · split <;> exact Iff.rfl
  · by_cases hx : x = 0 <;> by_cases hy : y = 0 <;> simp [hx, hy]
  · by_cases hx : x = 0 <;> by_cases hy : y = 0 <;> simp [hx, hy]
theorem TR.top {P : Pos} (h : TR t P I) {p : Nat} (hp : p < 6) : I (t + 3) p = a_top (P.1 p) := by
  have h1 := (h.1 p hp).1
  unfold a_top
  rw [List.getLast?_eq_head?_reverse]
  cases e : (P.1 p).reverse with
  | nil => rw [e] at h1; exact h1
  | cons a l => rw [e] at h1; exact h1.1
theorem c88 (ht : tb t) {P : Pos} (h : TR t P I) {rk s z a : Nat} {c : Int32} (hrk : I 10 4 = nI rk) (hr1 : 1 ≤ rk) (hr6 : rk ≤ 6) (hs : s < 2) (hz : z ≤ 4) (ha : a_arg z a = true) : pm_C (d + 2) 88 [.ref 9, .int (nI z), .int (nI a), .ref t, .int (nI s), .int c] (Wm I k o) q ↔ q = (.inl (some (.int (a_opd rk P s c z a))), Wm I k o) := by
  rw [n88]
  have hrk0 : (nI rk = 0) ↔ False := iff_false_intro (by rw [show (0 : Int32) = nI 0 from rfl, sm_inj (by omega) (by omega)]; omega)
  have hrk1 : (nI rk < 1) ↔ False := iff_false_intro (by rw [show (1 : Int32) = nI 1 from rfl, sm_lt (by omega) (by omega)]; omega)
  rcases (show z = 0 ∨ z = 1 ∨ z = 2 ∨ (z = 3 ∨ z = 4) by omega) with rfl | rfl | rfl | hz34
  · simp (decide := true) only [q88_0, q88_1, q88_32, q88_33, q88_34, q88_37, q88_38, q88_39, q88_40, q88_42, q88_45, q88_48, q88_49, q88_50, q88_52, q88_55, q88_57, q88_60, q88_61, q88_62, q88_64, q88_67, q88_70, q88_72, q88_74, q88_77, q88_78, q88_81, q88_84, q88_85, q88_88, q88_89, q88_90, q88_91, q88_92, q88_95, q88_97, q88_98, q88_101, q88_104, q88_105, q88_108, q88_110, q88_111, q88_114, q88_117, q88_118, q88_119, q88_120, reduceIte, a_opd]
  · have ha4 : a < 4 := by simpa [a_arg] using ha
    simp (decide := true) only [q88_0, q88_1, q88_32, q88_33, q88_34, q88_37, q88_38, q88_39, q88_40, q88_42, q88_45, q88_48, q88_49, q88_50, q88_52, q88_55, q88_57, q88_60, q88_61, q88_62, q88_64, q88_67, q88_70, q88_72, q88_74, q88_77, q88_78, q88_81, q88_84, q88_85, q88_88, q88_89, q88_90, q88_91, q88_92, q88_95, q88_97, q88_98, q88_101, q88_104, q88_105, q88_108, q88_110, q88_111, q88_114, q88_117, q88_118, q88_119, q88_120, reduceIte, a_opd, ex_eq, ex_ite, pm_bk_r, pm_bk_t, ol_nil, ol_one, true_and, and_true, false_and, and_false, reduceIte, Nat.reduceEqDiff, up_at, Nat.add_left_cancel_iff, ob_t ht, c136 ht ha4, h.2.2.2.1 a ha4]
  · have ha6 : a < 6 := by simpa [a_arg] using ha
    have hpl := a_place_lt (z := a) hs
    simp (decide := true) only [q88_0, q88_1, q88_32, q88_33, q88_34, q88_37, q88_38, q88_39, q88_40, q88_42, q88_45, q88_48, q88_49, q88_50, q88_52, q88_55, q88_57, q88_60, q88_61, q88_62, q88_64, q88_67, q88_70, q88_72, q88_74, q88_77, q88_78, q88_81, q88_84, q88_85, q88_88, q88_89, q88_90, q88_91, q88_92, q88_95, q88_97, q88_98, q88_101, q88_104, q88_105, q88_108, q88_110, q88_111, q88_114, q88_117, q88_118, q88_119, q88_120, reduceIte, a_opd, ex_eq, ex_ite, pm_bk_r, pm_bk_t, ol_nil, ol_one, true_and, and_true, false_and, and_false, reduceIte, Nat.reduceEqDiff, up_at, Nat.add_left_cancel_iff, ob_t ht, c91 ha6 hs, c134 ht hpl, (h.1 _ hpl).2]
  · have ha7 : a < 7 := by rcases hz34 with rfl | rfl <;> simpa [a_arg] using ha
    have hpl := a_place_lt (z := a) hs
    have key : ∀ x : Int32, (pm_R (d + 1) 88 70 [some (.ref 9), some (.int (nI z)), some (.int (nI a)), some (.ref t), some (.int (nI s)), some (.int c), none] [.int x] (Wm I k o) q ↔ q = (.inl (some (.int (if x < 0 then -1 else if z = 3 then x - x / nI rk * nI rk else x / nI rk))), Wm I k o)) := by
      intro x
      simp only [q88_70, q88_72, q88_74, q88_77, q88_78, q88_81, q88_84, q88_85, q88_88, q88_89, q88_90, q88_91, q88_92, q88_95, q88_97, q88_98, q88_101, q88_104, q88_105, q88_108, q88_110, q88_111, q88_114, q88_117, q88_118, W_1, W_I, W_mk, W_tk, pm_rv, rf_0_0, rf_0_1, rf_0_2, rf_0_3, rf_0_4, rf_0_7, rf_0_8, rf_1_0, rf_1_2, rf_3_0, rf_3_1, rf_3_6, rf_3_7, rf_3_8, rf_9_0, rf_9_1, rf_10_0, rf_10_1, rf_10_6, rf_10_7, rf_10_8, rf_17_0, rf_17_1, rf_538_2, rf_538_6, rf_538_7, rf_538_9, rf_538_11, rf_538_12, rf_538_18, rf_538_19, rf_538_22, rf_538_23, rf_538_25, rf_538_27, rf_538_28, rf_538_30, rf_538_31, rf_538_32, rf_538_33, rf_538_34, rf_538_35, rf_538_36, ob_0, ob_1, ob_3, ob_9, ob_10, ob_17, ob_538, ar_2, ar_4, ar_5, ar_6, ar_7, ar_8, ar_11, ar_12, ar_13, ar_14, ar_15, ar_16, ar_116, ar_117, ar_539, ar_540, ar_541, ar_542, ar_543, ar_544, ar_545, ar_546, ar_547, ar_548, ar_549, ar_550, ar_551, ar_552, ar_553, ar_554, ar_555, ar_556, ar_557, ar_558, ex_eq, ex_ite, pm_bk_r, pm_bk_t, ol_nil, ol_one, true_and, and_true, false_and, and_false, reduceIte, Nat.reduceEqDiff, up_at, Nat.add_left_cancel_iff, hrk, hrk0, hrk1, not_false_eq_true]
      split
      · rfl
      · rcases hz34 with rfl | rfl <;> simp (decide := true) only [reduceIte]
    have e0 : a_opd rk P s c z a = if a_card P s c a < 0 then -1 else if z = 3 then a_card P s c a - a_card P s c a / nI rk * nI rk else a_card P s c a / nI rk := by
      unfold a_opd
      rw [if_neg (by omega), if_neg (by omega), if_neg (by omega)]
    rw [e0]
    have e1 : pm_R (d + 1) 88 0 [some (.ref 9), some (.int (nI z)), some (.int (nI a)), some (.ref t), some (.int (nI s)), some (.int c), none] [] (Wm I k o) q ↔ pm_R (d + 1) 88 49 [some (.ref 9), some (.int (nI z)), some (.int (nI a)), some (.ref t), some (.int (nI s)), some (.int c), none] [] (Wm I k o) q := by
      rcases hz34 with rfl | rfl <;> simp (decide := true) only [q88_0, q88_1, reduceIte]
    rw [e1]
    by_cases e6 : a = 6
    · subst e6
      simp (decide := true) only [q88_49, q88_50, q88_52, q88_55, q88_57, reduceIte]
      rw [key]
      unfold a_card
      rw [if_pos rfl]
    · have hne : (nI a = 6) ↔ False := iff_false_intro (by rw [show (6 : Int32) = nI 6 from rfl, sm_inj (by omega) (by omega)]; exact e6)
      simp only [q88_49, q88_50, q88_52, hne, reduceIte, q88_60, q88_61, q88_62, q88_64, q88_67, ex_eq, ex_ite, pm_bk_r, pm_bk_t, ol_nil, ol_one, true_and, and_true, false_and, and_false, reduceIte, Nat.reduceEqDiff, up_at, Nat.add_left_cancel_iff, ob_t ht, c91 (show a < 6 by omega) hs, c135 ht hpl]
      rw [key, h.top hpl]
      unfold a_card
      rw [if_neg e6]
end RUN
