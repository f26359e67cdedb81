/-! THE REFERENCE: its row of places -/
def MP (x b : Nat) (P : Pos) (I : Nat → Nat → Int32) : Prop :=
  (∀ p, p < 6 → I x (b + p) = nI (P.1 p).length ∧ ∀ i, i < (P.1 p).length → I x (b + (13 + 24 * p + i)) = nI ((P.1 p).getD i 0)) ∧ (∀ j, j < 4 → I x (b + (6 + j)) = P.2.1 j) ∧ (∀ j, j < 2 → I x (b + (10 + j)) = P.2.2.1 j)
def PL (P : Pos) : Prop := ∀ p, p < 6 → (P.1 p).length ≤ 24
theorem nd_len : ∀ (n : Nat) {l : List Nat}, l.Nodup → (∀ a ∈ l, a < n) → l.length ≤ n := by
  intro n
  induction n with
  | zero =>
    intro l _ h
    cases l with
    | nil => exact Nat.le_refl _
    | cons a l => exact absurd (h a List.mem_cons_self) (by omega)
  | succ n ih =>
    intro l hn h
    by_cases hm : n ∈ l
    · have h1 := a_fil_len hn hm
      have h2 := ih (a_fil_nd (c := n) hn) (fun a ha => by
        have h3 := a_fil_mem.mp ha
        have := h a h3.1
        omega)
      omega
    · have h2 := ih hn (fun a ha => by
        have := h a ha
        have : a ≠ n := fun e => hm (e ▸ ha)
        omega)
      omega
theorem PD.pl {P : Pos} (h : PD P) : PL P := fun p hp => nd_len 24 (h.1 p hp).1 (h.1 p hp).2
theorem fil_23 {c : Nat} {l : List Nat} (hc : c < 24) (hn : l.Nodup) (h : ∀ a ∈ l, a < 24) : (a_fil c l).length ≤ 23 := by
  by_cases hm : c ∈ l
  · have h1 := a_fil_len hn hm
    have h2 := nd_len 24 hn h
    omega
  · have h1 : (c :: l).length ≤ 24 := nd_len 24 (List.nodup_cons.mpr ⟨hm, hn⟩) (fun a ha => by
      rcases List.mem_cons.mp ha with rfl | ha
      · exact hc
      · exact h a ha)
    rw [a_fil_no hm]
    simpa using h1
theorem MP.congr {x b : Nat} {P : Pos} {I J : Nat → Nat → Int32} (h : MP x b P I) (h1 : J x = I x) : MP x b P J := by
  unfold MP
  rw [h1]
  exact h
section MOD
variable {d k : Nat} {o : Int64} {I : Nat → Nat → Int32} {q : pm_Res}
theorem MP.len {P : Pos} (h : MP 549 0 P I) {p : Nat} (hp : p < 6) : I 549 p = nI (P.1 p).length := by
  have := (h.1 p hp).1
  rwa [Nat.zero_add] at this
theorem MP.crd {P : Pos} (h : MP 549 0 P I) {p i : Nat} (hp : p < 6) (hi : i < (P.1 p).length) : I 549 (13 + 24 * p + i) = nI ((P.1 p).getD i 0) := by
  have := (h.1 p hp).2 i hi
  rwa [Nat.zero_add] at this
theorem MP.cnt {P : Pos} (h : MP 549 0 P I) {j : Nat} (hj : j < 4) : I 549 (6 + j) = P.2.1 j := by
  have := h.2.1 j hj
  rwa [Nat.zero_add] at this
theorem MP.sco {P : Pos} (h : MP 549 0 P I) {j : Nat} (hj : j < 2) : I 549 (10 + j) = P.2.2.1 j := by
  have := h.2.2 j hj
  rwa [Nat.zero_add] at this
theorem MP.mk0 {P : Pos} (h1 : ∀ p, p < 6 → I 549 p = nI (P.1 p).length ∧ ∀ i, i < (P.1 p).length → I 549 (13 + 24 * p + i) = nI ((P.1 p).getD i 0)) (h2 : ∀ j, j < 4 → I 549 (6 + j) = P.2.1 j) (h3 : ∀ j, j < 2 → I 549 (10 + j) = P.2.2.1 j) : MP 549 0 P I := by
  unfold MP
  simp only [Nat.zero_add]
  exact ⟨h1, h2, h3⟩
theorem c48 {z s : Nat} (hz : z < 6) (hs : s < 2) {M : pm_Mem} : pm_C (d + 1) 48 [.int (nI z), .int (nI s)] M q ↔ q = (.inl (some (.int (nI (a_place z s)))), M) := by
  rw [n48]
  rcases (show s = 0 ∨ s = 1 by omega) with rfl | rfl <;> rcases (show z = 0 ∨ z = 1 ∨ z = 2 ∨ z = 3 ∨ z = 4 ∨ z = 5 by omega) with rfl | rfl | rfl | rfl | rfl | rfl <;> (simp (decide := true) only [q48_0, q48_1, q48_4, q48_5, q48_8, q48_9, q48_10, q48_13, q48_14, q48_15, q48_16, q48_19, q48_20, q48_21, q48_24, q48_25, q48_28, q48_29, q48_30, q48_33, q48_34, q48_35, q48_36, q48_39, q48_40, q48_41, q48_42, reduceIte]; exact Iff.rfl)
theorem sp_nI (p i : Nat) : (13 : Int32) + 24 * nI p + nI i = nI (13 + 24 * p + i) := by
  rw [show (24 : Int32) = nI 24 from rfl, sm_mul, show (13 : Int32) = nI 13 from rfl, sm_add, sm_add]
theorem c49 {p i : Nat} {M : pm_Mem} : pm_C (d + 1) 49 [.int (nI p), .int (nI i)] M q ↔ q = (.inl (some (.int (nI (13 + 24 * p + i)))), M) := by
  rw [n49]
  simp only [q49_0, q49_2, q49_4, q49_5, q49_6, q49_7, q49_8, q49_9, ex_eq, ex_ite, pm_bk_r, pm_bk_t, ol_nil, ol_one, true_and, and_true, false_and, and_false, reduceIte, Nat.reduceEqDiff, up_at, Nat.add_left_cancel_iff, sp_nI]
theorem a_top_get {l : List Nat} (h : 1 ≤ l.length) : a_top l = nI (l.getD (l.length - 1) 0) := by
  unfold a_top
  rw [List.getLast?_eq_getElem?, List.getD_eq_getElem?_getD, List.getElem?_eq_getElem (by omega)]
  rfl
theorem c50 {P : Pos} (h : MP 549 0 P I) {p : Nat} (hp : p < 6) (hl : PL P) : pm_C (d + 2) 50 [.ref 538, .int (nI p)] (Wm I k o) q ↔ q = (.inl (some (.int (a_top (P.1 p)))), Wm I k o) := by
  have hl := hl p hp
  have e0 : (nI (P.1 p).length = 0) ↔ (P.1 p).length = 0 := by rw [show (0 : Int32) = nI 0 from rfl, sm_inj (by omega) (by omega)]
  rw [n50]
  by_cases h0 : (P.1 p).length = 0
  · have e1 : a_top (P.1 p) = -1 := by rw [List.eq_nil_of_length_eq_zero h0]; rfl
    have e00 : (nI (P.1 p).length = 0) ↔ True := iff_true_intro (e0.mpr h0)
    simp only [q50_0, q50_1, q50_4, q50_5, q50_6, q50_9, q50_10, q50_13, q50_14, q50_17, q50_18, q50_19, q50_22, q50_23, q50_24, q50_27, q50_28, q50_31, q50_32, q50_35, q50_36, q50_37, q50_38, q50_39, q50_42, q50_43, W_1, W_I, W_mk, W_tk, pm_rv, rf_0_0, rf_0_1, rf_0_2, rf_0_3, rf_0_4, rf_0_7, rf_0_8, rf_1_0, rf_1_2, rf_3_0, rf_3_1, rf_3_6, rf_3_7, rf_3_8, rf_9_0, rf_9_1, rf_10_0, rf_10_1, rf_10_6, rf_10_7, rf_10_8, rf_17_0, rf_17_1, rf_538_2, rf_538_6, rf_538_7, rf_538_9, rf_538_11, rf_538_12, rf_538_18, rf_538_19, rf_538_22, rf_538_23, rf_538_25, rf_538_27, rf_538_28, rf_538_30, rf_538_31, rf_538_32, rf_538_33, rf_538_34, rf_538_35, rf_538_36, ob_0, ob_1, ob_3, ob_9, ob_10, ob_17, ob_538, ar_2, ar_4, ar_5, ar_6, ar_7, ar_8, ar_11, ar_12, ar_13, ar_14, ar_15, ar_16, ar_116, ar_117, ar_539, ar_540, ar_541, ar_542, ar_543, ar_544, ar_545, ar_546, ar_547, ar_548, ar_549, ar_550, ar_551, ar_552, ar_553, ar_554, ar_555, ar_556, ar_557, ar_558, ex_eq, ex_ite, pm_bk_r, pm_bk_t, ol_nil, ol_one, true_and, and_true, false_and, and_false, reduceIte, Nat.reduceEqDiff, up_at, Nat.add_left_cancel_iff, sm_in (show p < 2147483648 by omega), show p < 157 by omega, sm_cl (show p < 2147483648 by omega), h.len hp, e00, e1]
  · have e2 : nI (P.1 p).length - 1 = nI ((P.1 p).length - 1) := by rw [show (1 : Int32) = nI 1 from rfl, sm_sub (by omega)]
    simp only [q50_0, q50_1, q50_4, q50_5, q50_6, q50_9, q50_10, q50_13, q50_14, q50_17, q50_18, q50_19, q50_22, q50_23, q50_24, q50_27, q50_28, q50_31, q50_32, q50_35, q50_36, q50_37, q50_38, q50_39, q50_42, q50_43, W_1, W_I, W_mk, W_tk, pm_rv, rf_0_0, rf_0_1, rf_0_2, rf_0_3, rf_0_4, rf_0_7, rf_0_8, rf_1_0, rf_1_2, rf_3_0, rf_3_1, rf_3_6, rf_3_7, rf_3_8, rf_9_0, rf_9_1, rf_10_0, rf_10_1, rf_10_6, rf_10_7, rf_10_8, rf_17_0, rf_17_1, rf_538_2, rf_538_6, rf_538_7, rf_538_9, rf_538_11, rf_538_12, rf_538_18, rf_538_19, rf_538_22, rf_538_23, rf_538_25, rf_538_27, rf_538_28, rf_538_30, rf_538_31, rf_538_32, rf_538_33, rf_538_34, rf_538_35, rf_538_36, ob_0, ob_1, ob_3, ob_9, ob_10, ob_17, ob_538, ar_2, ar_4, ar_5, ar_6, ar_7, ar_8, ar_11, ar_12, ar_13, ar_14, ar_15, ar_16, ar_116, ar_117, ar_539, ar_540, ar_541, ar_542, ar_543, ar_544, ar_545, ar_546, ar_547, ar_548, ar_549, ar_550, ar_551, ar_552, ar_553, ar_554, ar_555, ar_556, ar_557, ar_558, ex_eq, ex_ite, pm_bk_r, pm_bk_t, ol_nil, ol_one, true_and, and_true, false_and, and_false, reduceIte, Nat.reduceEqDiff, up_at, Nat.add_left_cancel_iff, sm_in (show p < 2147483648 by omega), show p < 157 by omega, sm_cl (show p < 2147483648 by omega), h.len hp, e0, h0, e2, c49, sm_in (show 13 + 24 * p + ((P.1 p).length - 1) < 2147483648 by omega), show 13 + 24 * p + ((P.1 p).length - 1) < 157 by omega, sm_cl (show 13 + 24 * p + ((P.1 p).length - 1) < 2147483648 by omega), h.crd hp (show (P.1 p).length - 1 < (P.1 p).length by omega), a_top_get (show 1 ≤ (P.1 p).length by omega)]
theorem c52 {P : Pos} (h : MP 549 0 P I) (hl : PL P) {z s : Nat} {c : Int32} (hz : z < 7) (hs : s < 2) : pm_C (d + 3) 52 [.ref 538, .int (nI z), .int (nI s), .int c] (Wm I k o) q ↔ q = (.inl (some (.int (a_card P s c z))), Wm I k o) := by
  rw [n52]
  unfold a_card
  by_cases e6 : z = 6
  · subst e6
    simp (decide := true) only [q52_0, q52_1, q52_3, q52_6, q52_7, q52_10, q52_11, q52_12, q52_13, q52_16, q52_19, reduceIte]
  · have hne : (nI z = 6) ↔ False := iff_false_intro (by rw [show (6 : Int32) = nI 6 from rfl, sm_inj (by omega) (by omega)]; exact e6)
    simp only [q52_0, q52_1, q52_3, q52_6, q52_7, q52_10, q52_11, q52_12, q52_13, q52_16, q52_19, hne, W_1, W_I, W_mk, W_tk, pm_rv, rf_0_0, rf_0_1, rf_0_2, rf_0_3, rf_0_4, rf_0_7, rf_0_8, rf_1_0, rf_1_2, rf_3_0, rf_3_1, rf_3_6, rf_3_7, rf_3_8, rf_9_0, rf_9_1, rf_10_0, rf_10_1, rf_10_6, rf_10_7, rf_10_8, rf_17_0, rf_17_1, rf_538_2, rf_538_6, rf_538_7, rf_538_9, rf_538_11, rf_538_12, rf_538_18, rf_538_19, rf_538_22, rf_538_23, rf_538_25, rf_538_27, rf_538_28, rf_538_30, rf_538_31, rf_538_32, rf_538_33, rf_538_34, rf_538_35, rf_538_36, ob_0, ob_1, ob_3, ob_9, ob_10, ob_17, ob_538, ar_2, ar_4, ar_5, ar_6, ar_7, ar_8, ar_11, ar_12, ar_13, ar_14, ar_15, ar_16, ar_116, ar_117, ar_539, ar_540, ar_541, ar_542, ar_543, ar_544, ar_545, ar_546, ar_547, ar_548, ar_549, ar_550, ar_551, ar_552, ar_553, ar_554, ar_555, ar_556, ar_557, ar_558, ex_eq, ex_ite, pm_bk_r, pm_bk_t, ol_nil, ol_one, true_and, and_true, false_and, and_false, reduceIte, Nat.reduceEqDiff, up_at, Nat.add_left_cancel_iff, c48 (show z < 6 by omega) hs, c50 h (a_place_lt (z := z) hs) hl, e6]
theorem c53 {x : Int32} {M : pm_Mem} : pm_C (d + 1) 53 [.int x] M q ↔ q = (.inl (some (.int (if x = 0 then 0 else 1))), M) := by
  rw [n53]
  simp only [q53_0, q53_1, q53_4, q53_5, q53_8, q53_9, ex_eq, ex_ite, pm_bk_r, pm_bk_t, ol_nil, ol_one, true_and, and_true, false_and, and_false, reduceIte, Nat.reduceEqDiff, up_at, Nat.add_left_cancel_iff]
  split <;> exact Iff.rfl
theorem c54 {z : Nat} {x y : Int32} (h5 : 5 ≤ z) (h11 : z ≤ 11) {M : pm_Mem} : pm_C (d + 2) 54 [.int (nI z), .int x, .int y] M q ↔ q = (.inl (some (.int (a_comb z x y))), M) := by
  rw [n54]
  rcases (show z = 5 ∨ z = 6 ∨ z = 7 ∨ z = 8 ∨ z = 9 ∨ z = 10 ∨ z = 11 by omega) with rfl | rfl | rfl | rfl | rfl | rfl | rfl <;> (simp (decide := true) only [q54_0, q54_1, q54_40, q54_41, q54_42, q54_43, q54_44, q54_45, q54_46, q54_47, q54_48, q54_49, q54_50, q54_51, q54_52, q54_53, q54_54, q54_57, q54_58, q54_61, q54_62, q54_65, q54_66, q54_67, q54_68, q54_71, q54_72, q54_75, q54_76, q54_79, q54_80, q54_81, q54_84, q54_85, q54_88, q54_89, q54_92, q54_93, q54_96, q54_97, q54_98, q54_101, q54_102, q54_105, q54_106, q54_109, q54_110, q54_113, ex_eq, ex_ite, pm_bk_r, pm_bk_t, ol_nil, ol_one, true_and, and_true, false_and, and_false, reduceIte, Nat.reduceEqDiff, up_at, Nat.add_left_cancel_iff, c53, a_comb])
  · split <;> exact Iff.rfl
  · split <;> exact Iff.rfl
  · by_cases hx : x = 0 <;> by_cases hy : y = 0 <;> simp [hx, hy]
  · by_cases hx : x = 0 <;> by_cases hy : y = 0 <;> simp [hx, hy]
theorem c55 {P : Pos} (h : MP 549 0 P I) (hl : PL P) {rk s z a : Nat} {c : Int32} (hrk : I 538 16 = nI rk) (hr1 : 1 ≤ rk) (hr6 : rk ≤ 6) (hs : s < 2) (hz : z ≤ 4) (ha : a_arg z a = true) : pm_C (d + 4) 55 [.ref 538, .int (nI z), .int (nI a), .int (nI s), .int c] (Wm I k o) q ↔ q = (.inl (some (.int (a_opd rk P s c z a))), Wm I k o) := by
  have hrk0 : (nI rk = 0) ↔ False := iff_false_intro (by rw [show (0 : Int32) = nI 0 from rfl, sm_inj (by omega) (by omega)]; omega)
  rw [n55]
  rcases (show z = 0 ∨ z = 1 ∨ z = 2 ∨ (z = 3 ∨ z = 4) by omega) with rfl | rfl | rfl | hz34
  · simp (decide := true) only [q55_0, q55_1, q55_2, q55_5, q55_6, q55_9, q55_10, q55_13, q55_14, q55_15, q55_18, q55_19, q55_22, q55_24, q55_25, q55_26, q55_27, q55_30, q55_31, q55_34, q55_35, q55_36, q55_39, q55_40, q55_41, q55_42, q55_43, q55_44, q55_46, q55_49, q55_51, q55_53, q55_56, q55_57, q55_60, q55_61, q55_62, q55_65, q55_67, q55_68, q55_71, q55_72, q55_75, q55_77, q55_78, q55_81, q55_82, reduceIte, a_opd]
  · have ha4 : a < 4 := by simpa [a_arg] using ha
    have e : (6 : Int32) + nI a = nI (6 + a) := by rw [show (6 : Int32) = nI 6 from rfl, sm_add]
    simp (decide := true) only [q55_0, q55_1, q55_2, q55_5, q55_6, q55_9, q55_10, q55_13, q55_14, q55_15, q55_18, q55_19, q55_22, q55_24, q55_25, q55_26, q55_27, q55_30, q55_31, q55_34, q55_35, q55_36, q55_39, q55_40, q55_41, q55_42, q55_43, q55_44, q55_46, q55_49, q55_51, q55_53, q55_56, q55_57, q55_60, q55_61, q55_62, q55_65, q55_67, q55_68, q55_71, q55_72, q55_75, q55_77, q55_78, q55_81, q55_82, reduceIte, a_opd, W_1, W_I, W_mk, W_tk, pm_rv, rf_0_0, rf_0_1, rf_0_2, rf_0_3, rf_0_4, rf_0_7, rf_0_8, rf_1_0, rf_1_2, rf_3_0, rf_3_1, rf_3_6, rf_3_7, rf_3_8, rf_9_0, rf_9_1, rf_10_0, rf_10_1, rf_10_6, rf_10_7, rf_10_8, rf_17_0, rf_17_1, rf_538_2, rf_538_6, rf_538_7, rf_538_9, rf_538_11, rf_538_12, rf_538_18, rf_538_19, rf_538_22, rf_538_23, rf_538_25, rf_538_27, rf_538_28, rf_538_30, rf_538_31, rf_538_32, rf_538_33, rf_538_34, rf_538_35, rf_538_36, ob_0, ob_1, ob_3, ob_9, ob_10, ob_17, ob_538, ar_2, ar_4, ar_5, ar_6, ar_7, ar_8, ar_11, ar_12, ar_13, ar_14, ar_15, ar_16, ar_116, ar_117, ar_539, ar_540, ar_541, ar_542, ar_543, ar_544, ar_545, ar_546, ar_547, ar_548, ar_549, ar_550, ar_551, ar_552, ar_553, ar_554, ar_555, ar_556, ar_557, ar_558, ex_eq, ex_ite, pm_bk_r, pm_bk_t, ol_nil, ol_one, true_and, and_true, false_and, and_false, reduceIte, Nat.reduceEqDiff, up_at, Nat.add_left_cancel_iff, e, sm_in (show 6 + a < 2147483648 by omega), show 6 + a < 157 by omega, sm_cl (show 6 + a < 2147483648 by omega), h.cnt ha4]
  · have ha6 : a < 6 := by simpa [a_arg] using ha
    have hpl := a_place_lt (z := a) hs
    simp (decide := true) only [q55_0, q55_1, q55_2, q55_5, q55_6, q55_9, q55_10, q55_13, q55_14, q55_15, q55_18, q55_19, q55_22, q55_24, q55_25, q55_26, q55_27, q55_30, q55_31, q55_34, q55_35, q55_36, q55_39, q55_40, q55_41, q55_42, q55_43, q55_44, q55_46, q55_49, q55_51, q55_53, q55_56, q55_57, q55_60, q55_61, q55_62, q55_65, q55_67, q55_68, q55_71, q55_72, q55_75, q55_77, q55_78, q55_81, q55_82, reduceIte, a_opd, W_1, W_I, W_mk, W_tk, pm_rv, rf_0_0, rf_0_1, rf_0_2, rf_0_3, rf_0_4, rf_0_7, rf_0_8, rf_1_0, rf_1_2, rf_3_0, rf_3_1, rf_3_6, rf_3_7, rf_3_8, rf_9_0, rf_9_1, rf_10_0, rf_10_1, rf_10_6, rf_10_7, rf_10_8, rf_17_0, rf_17_1, rf_538_2, rf_538_6, rf_538_7, rf_538_9, rf_538_11, rf_538_12, rf_538_18, rf_538_19, rf_538_22, rf_538_23, rf_538_25, rf_538_27, rf_538_28, rf_538_30, rf_538_31, rf_538_32, rf_538_33, rf_538_34, rf_538_35, rf_538_36, ob_0, ob_1, ob_3, ob_9, ob_10, ob_17, ob_538, ar_2, ar_4, ar_5, ar_6, ar_7, ar_8, ar_11, ar_12, ar_13, ar_14, ar_15, ar_16, ar_116, ar_117, ar_539, ar_540, ar_541, ar_542, ar_543, ar_544, ar_545, ar_546, ar_547, ar_548, ar_549, ar_550, ar_551, ar_552, ar_553, ar_554, ar_555, ar_556, ar_557, ar_558, ex_eq, ex_ite, pm_bk_r, pm_bk_t, ol_nil, ol_one, true_and, and_true, false_and, and_false, reduceIte, Nat.reduceEqDiff, up_at, Nat.add_left_cancel_iff, c48 ha6 hs, sm_in (show a_place a s < 2147483648 by omega), show a_place a s < 157 by omega, sm_cl (show a_place a s < 2147483648 by omega), h.len hpl]
  · have ha7 : a < 7 := by rcases hz34 with rfl | rfl <;> simpa [a_arg] using ha
    have e0 : a_opd rk P s c z a = if a_card P s c a < 0 then -1 else if z = 3 then a_card P s c a - a_card P s c a / nI rk * nI rk else a_card P s c a / nI rk := by
      unfold a_opd
      rw [if_neg (by omega), if_neg (by omega), if_neg (by omega)]
    have h3 : (nI z < 3) ↔ False := iff_false_intro (by rw [show (3 : Int32) = nI 3 from rfl, sm_lt (by omega) (by omega)]; omega)
    have h33 : (nI z = 3) ↔ z = 3 := by rw [show (3 : Int32) = nI 3 from rfl, sm_inj (by omega) (by omega)]
    rw [e0]
    simp only [q55_0, q55_1, q55_2, q55_5, q55_6, q55_9, q55_10, q55_13, q55_14, q55_15, q55_18, q55_19, q55_22, q55_24, q55_25, q55_26, q55_27, q55_30, q55_31, q55_34, q55_35, q55_36, q55_39, q55_40, q55_41, q55_42, q55_43, q55_44, q55_46, q55_49, q55_51, q55_53, q55_56, q55_57, q55_60, q55_61, q55_62, q55_65, q55_67, q55_68, q55_71, q55_72, q55_75, q55_77, q55_78, q55_81, q55_82, h3, h33, W_1, W_I, W_mk, W_tk, pm_rv, rf_0_0, rf_0_1, rf_0_2, rf_0_3, rf_0_4, rf_0_7, rf_0_8, rf_1_0, rf_1_2, rf_3_0, rf_3_1, rf_3_6, rf_3_7, rf_3_8, rf_9_0, rf_9_1, rf_10_0, rf_10_1, rf_10_6, rf_10_7, rf_10_8, rf_17_0, rf_17_1, rf_538_2, rf_538_6, rf_538_7, rf_538_9, rf_538_11, rf_538_12, rf_538_18, rf_538_19, rf_538_22, rf_538_23, rf_538_25, rf_538_27, rf_538_28, rf_538_30, rf_538_31, rf_538_32, rf_538_33, rf_538_34, rf_538_35, rf_538_36, ob_0, ob_1, ob_3, ob_9, ob_10, ob_17, ob_538, ar_2, ar_4, ar_5, ar_6, ar_7, ar_8, ar_11, ar_12, ar_13, ar_14, ar_15, ar_16, ar_116, ar_117, ar_539, ar_540, ar_541, ar_542, ar_543, ar_544, ar_545, ar_546, ar_547, ar_548, ar_549, ar_550, ar_551, ar_552, ar_553, ar_554, ar_555, ar_556, ar_557, ar_558, ex_eq, ex_ite, pm_bk_r, pm_bk_t, ol_nil, ol_one, true_and, and_true, false_and, and_false, reduceIte, Nat.reduceEqDiff, up_at, Nat.add_left_cancel_iff, c52 h hl ha7 hs, hrk, hrk0, not_false_eq_true]
    split
    · rfl
    · split <;> rfl
/-- a card taken out of one place -/
theorem c51_i {c p n : Nat} (hc : c < 24) (hp : p < 6) (hn : n ≤ 24) {x2 : Option Value} : ∀ (B A : List Nat) (i : Nat) (I : Nat → Nat → Int32) (y6 : Option Value), A.length ≤ i → i + B.length = n → I 549 p = nI n → (∀ j, j < A.length → I 549 (13 + 24 * p + j) = nI (A.getD j 0)) → (∀ j, j < B.length → I 549 (13 + 24 * p + (i + j)) = nI (B.getD j 0)) → (∀ b ∈ B, b < 24) →
    ∃ J z5 z6, (∀ j, j < (A ++ a_fil c B).length → J 549 (13 + 24 * p + j) = nI ((A ++ a_fil c B).getD j 0)) ∧ (∀ x j, ¬ (x = 549 ∧ 13 + 24 * p ≤ j ∧ j < 13 + 24 * p + 24) → J x j = I x j) ∧ ∀ q, (pm_R (d + 1) 51 14 [some (.ref 538), some (.int (nI c)), x2, some (.int (nI p)), some (.int (nI A.length)), some (.int (nI i)), y6] [] (Wm I k o) q ↔ pm_R (d + 1) 51 73 [some (.ref 538), some (.int (nI c)), x2, some (.int (nI p)), some (.int (nI (A ++ a_fil c B).length)), z5, z6] [] (Wm J k o) q) := by
  intro B
  induction B with
  | nil =>
    intro A i I y6 hA hi h0 h1 h2 h3
    have e : A ++ a_fil c [] = A := List.append_nil A
    rw [e]
    have hi' : i = n := by simpa using hi
    subst hi'
    refine ⟨I, some (.int (nI i)), y6, h1, fun x j _ => rfl, fun q => ?_⟩
    rw [q51_14]
    simp only [q51_16, q51_17, q51_20, q51_21, q51_22, W_1, W_I, W_mk, W_tk, pm_rv, rf_0_0, rf_0_1, rf_0_2, rf_0_3, rf_0_4, rf_0_7, rf_0_8, rf_1_0, rf_1_2, rf_3_0, rf_3_1, rf_3_6, rf_3_7, rf_3_8, rf_9_0, rf_9_1, rf_10_0, rf_10_1, rf_10_6, rf_10_7, rf_10_8, rf_17_0, rf_17_1, rf_538_2, rf_538_6, rf_538_7, rf_538_9, rf_538_11, rf_538_12, rf_538_18, rf_538_19, rf_538_22, rf_538_23, rf_538_25, rf_538_27, rf_538_28, rf_538_30, rf_538_31, rf_538_32, rf_538_33, rf_538_34, rf_538_35, rf_538_36, ob_0, ob_1, ob_3, ob_9, ob_10, ob_17, ob_538, ar_2, ar_4, ar_5, ar_6, ar_7, ar_8, ar_11, ar_12, ar_13, ar_14, ar_15, ar_16, ar_116, ar_117, ar_539, ar_540, ar_541, ar_542, ar_543, ar_544, ar_545, ar_546, ar_547, ar_548, ar_549, ar_550, ar_551, ar_552, ar_553, ar_554, ar_555, ar_556, ar_557, ar_558, ex_eq, ex_ite, pm_bk_r, pm_bk_t, ol_nil, ol_one, true_and, and_true, false_and, and_false, reduceIte, Nat.reduceEqDiff, up_at, Nat.add_left_cancel_iff, sm_in (show p < 2147483648 by omega), show p < 157 by omega, sm_cl (show p < 2147483648 by omega), h0, show (nI i < nI i) ↔ False from iff_false_intro (by rw [sm_lt (by omega) (by omega)]; omega)]
  | cons b B ih =>
    intro A i I y6 hA hi h0 h1 h2 h3
    have hi' : i + B.length + 1 = n := by simpa [Nat.add_assoc] using hi
    have hb := h3 b List.mem_cons_self
    have hbv : I 549 (13 + 24 * p + i) = nI b := by
      have := h2 0 (by simp)
      simpa using this
    have hinj : (nI b = nI c) ↔ b = c := sm_inj (by omega) (by omega)
    have hopen : ∀ q, (pm_R (d + 1) 51 14 [some (.ref 538), some (.int (nI c)), x2, some (.int (nI p)), some (.int (nI A.length)), some (.int (nI i)), y6] [] (Wm I k o) q ↔ pm_R (d + 1) 51 14 [some (.ref 538), some (.int (nI c)), x2, some (.int (nI p)), some (.int (nI (if b = c then A.length else A.length + 1))), some (.int (nI (i + 1))), some (.int (nI b))] [] (Wm (pm_up I 549 (13 + 24 * p + A.length) (nI b)) k o) q) := by
      intro q
      rw [q51_14]
      simp only [q51_16, q51_17, q51_20, q51_21, q51_22, q51_25, q51_26, q51_29, q51_30, q51_32, q51_35, q51_36, q51_38, q51_39, q51_42, q51_43, q51_45, q51_48, q51_50, q51_51, q51_53, q51_55, q51_56, q51_59, q51_60, q51_63, q51_64, q51_65, q51_67, q51_70, W_1, W_I, W_mk, W_tk, pm_rv, rf_0_0, rf_0_1, rf_0_2, rf_0_3, rf_0_4, rf_0_7, rf_0_8, rf_1_0, rf_1_2, rf_3_0, rf_3_1, rf_3_6, rf_3_7, rf_3_8, rf_9_0, rf_9_1, rf_10_0, rf_10_1, rf_10_6, rf_10_7, rf_10_8, rf_17_0, rf_17_1, rf_538_2, rf_538_6, rf_538_7, rf_538_9, rf_538_11, rf_538_12, rf_538_18, rf_538_19, rf_538_22, rf_538_23, rf_538_25, rf_538_27, rf_538_28, rf_538_30, rf_538_31, rf_538_32, rf_538_33, rf_538_34, rf_538_35, rf_538_36, ob_0, ob_1, ob_3, ob_9, ob_10, ob_17, ob_538, ar_2, ar_4, ar_5, ar_6, ar_7, ar_8, ar_11, ar_12, ar_13, ar_14, ar_15, ar_16, ar_116, ar_117, ar_539, ar_540, ar_541, ar_542, ar_543, ar_544, ar_545, ar_546, ar_547, ar_548, ar_549, ar_550, ar_551, ar_552, ar_553, ar_554, ar_555, ar_556, ar_557, ar_558, ex_eq, ex_ite, pm_bk_r, pm_bk_t, ol_nil, ol_one, true_and, and_true, false_and, and_false, reduceIte, Nat.reduceEqDiff, up_at, Nat.add_left_cancel_iff, sm_in (show p < 2147483648 by omega), show p < 157 by omega, sm_cl (show p < 2147483648 by omega), h0, show (nI i < nI n) ↔ True from iff_true_intro (by rw [sm_lt (by omega) (by omega)]; omega), c49, sm_in (show 13 + 24 * p + i < 2147483648 by omega), show 13 + 24 * p + i < 157 by omega, sm_cl (show 13 + 24 * p + i < 2147483648 by omega), sm_in (show 13 + 24 * p + A.length < 2147483648 by omega), show 13 + 24 * p + A.length < 157 by omega, sm_cl (show 13 + 24 * p + A.length < 2147483648 by omega), hbv, hinj, sm_s]
      by_cases e : b = c
      · simp only [e, reduceIte, Int32.add_zero]
      · simp only [e, reduceIte, sm_s]
    have hfr : ∀ x j, ¬ (x = 549 ∧ 13 + 24 * p ≤ j ∧ j < 13 + 24 * p + 24) → pm_up I 549 (13 + 24 * p + A.length) (nI b) x j = I x j := fun x j hx => up_ne (fun q => hx ⟨q.1, by omega, by omega⟩)
    have h0' : pm_up I 549 (13 + 24 * p + A.length) (nI b) 549 p = nI n := by rw [hfr _ _ (fun q => by omega)]; exact h0
    have h2' : ∀ j, j < B.length → pm_up I 549 (13 + 24 * p + A.length) (nI b) 549 (13 + 24 * p + (i + 1 + j)) = nI (B.getD j 0) := fun j hj => by
      rw [up_ne (fun q => by omega)]
      have := h2 (j + 1) (by simp; omega)
      rw [show i + (j + 1) = i + 1 + j by omega] at this
      simpa using this
    have h3' : ∀ b ∈ B, b < 24 := fun x hx => h3 x (List.mem_cons_of_mem _ hx)
    by_cases e : b = c
    · obtain ⟨J, z5, z6, g1, g2, g3⟩ := ih A (i + 1) _ (some (.int (nI b))) (by omega) (by omega) h0' (fun j hj => by rw [up_ne (fun q => by omega)]; exact h1 j hj) h2' h3'
      have ef : a_fil c (b :: B) = a_fil c B := by simp [a_fil, e]
      rw [ef]
      rw [if_pos e] at hopen
      exact ⟨J, z5, z6, g1, fun x j hx => (g2 x j hx).trans (hfr x j hx), fun q => (hopen q).trans (g3 q)⟩
    · have hA1 : (A ++ [b]).length = A.length + 1 := by simp
      obtain ⟨J, z5, z6, g1, g2, g3⟩ := ih (A ++ [b]) (i + 1) _ (some (.int (nI b))) (by omega) (by omega) h0' (fun j hj => by
        by_cases ej : j = A.length
        · subst ej
          rw [up_eq, List.getD_eq_getElem?_getD, List.getElem?_append_right (by omega)]
          simp
        · have : j < A.length := by omega
          rw [up_ne (fun q => by omega), h1 j this, List.getD_eq_getElem?_getD, List.getD_eq_getElem?_getD, List.getElem?_append_left this]) h2' h3'
      have ef : A ++ a_fil c (b :: B) = (A ++ [b]) ++ a_fil c B := by simp [a_fil, e]
      rw [ef]
      rw [if_neg e] at hopen
      rw [hA1] at g3
      exact ⟨J, z5, z6, g1, fun x j hx => (g2 x j hx).trans (hfr x j hx), fun q => (hopen q).trans (g3 q)⟩
/-- only the places' part of now changes -/
def FG (I J : Nat → Nat → Int32) : Prop := (∀ x, x ≠ 549 → J x = I x) ∧ J 549 12 = I 549 12
def a_pp (P : Pos) (c p : Nat) : Pos := (fun r => if r < p then a_fil c (P.1 r) else P.1 r, P.2)
theorem c51_o {P : Pos} {c : Nat} (hc : c < 24) (hP : PD P) {x2 : Option Value} : ∀ (n p : Nat) (I : Nat → Nat → Int32) (y4 y5 y6 : Option Value), p + n = 6 → MP 549 0 (a_pp P c p) I →
    ∃ J z4 z5 z6, MP 549 0 (a_pp P c 6) J ∧ FG I J ∧ ∀ q, (pm_R (d + 1) 51 2 [some (.ref 538), some (.int (nI c)), x2, some (.int (nI p)), y4, y5, y6] [] (Wm I k o) q ↔ pm_R (d + 1) 51 87 [some (.ref 538), some (.int (nI c)), x2, some (.int 6), z4, z5, z6] [] (Wm J k o) q) := by
  intro n
  induction n with
  | zero =>
    intro p I y4 y5 y6 hp h
    have hp : p = 6 := by omega
    subst hp
    refine ⟨I, y4, y5, y6, h, ⟨fun _ _ => rfl, rfl⟩, fun q => ?_⟩
    rw [q51_2]
    simp (decide := true) only [q51_3, q51_5, ex_eq, ex_ite, pm_bk_r, pm_bk_t, ol_nil, ol_one, true_and, and_true, false_and, and_false, reduceIte, Nat.reduceEqDiff, up_at, Nat.add_left_cancel_iff]
    exact Iff.rfl
  | succ n ih =>
    intro p I y4 y5 y6 hp h
    have hp6 : p < 6 := by omega
    have ep : (a_pp P c p).1 p = P.1 p := if_neg (by omega)
    have hlp := hP.pl p hp6
    have h0 := h.len hp6
    rw [ep] at h0
    obtain ⟨J, z5, z6, g1, g2, g3⟩ := c51_i (d := d) (k := k) (o := o) hc hp6 hlp (x2 := x2) (P.1 p) [] 0 I y6 (Nat.zero_le _) (by omega) h0 (fun j hj => by simp at hj) (fun j hj => by
      have := h.crd hp6 (i := j) (by rw [ep]; exact hj)
      rw [ep] at this
      rw [Nat.zero_add]
      exact this) (hP.1 p hp6).2
    have en : [] ++ a_fil c (P.1 p) = a_fil c (P.1 p) := rfl
    rw [en] at g1 g3
    have hfl : (a_fil c (P.1 p)).length ≤ 24 := Nat.le_trans (fil_23 hc (hP.1 p hp6).1 (hP.1 p hp6).2) (by decide)
    obtain ⟨J', z4, z5', z6', f1, f2, f3⟩ := ih (p + 1) (pm_up J 549 p (nI (a_fil c (P.1 p)).length)) (some (.int (nI (a_fil c (P.1 p)).length))) z5 z6 (by omega) (by
      refine MP.mk0 (fun r hr => ?_) (fun j hj => ?_) (fun j hj => ?_)
      · by_cases er : r = p
        · subst er
          have e1 : (a_pp P c (r + 1)).1 r = a_fil c (P.1 r) := if_pos (by omega)
          rw [e1]
          exact ⟨up_eq, fun i hi => by rw [up_ne (fun q => by omega)]; exact g1 i hi⟩
        · have e1 : (a_pp P c (p + 1)).1 r = (a_pp P c p).1 r := by
            show (if r < p + 1 then _ else _) = (if r < p then _ else _)
            by_cases hrp : r < p
            · rw [if_pos (by omega), if_pos hrp]
            · rw [if_neg (by omega), if_neg hrp]
          rw [e1]
          refine ⟨by rw [up_ne (fun q => by omega), g2 _ _ (fun q => by omega)]; exact h.len hr, fun i hi => ?_⟩
          have hi24 : i < 24 := by
            have h5 : ((a_pp P c p).1 r).length ≤ 24 := by
              show (if r < p then _ else _ : List Nat).length ≤ 24
              split
              · exact Nat.le_trans (fil_23 hc (hP.1 r hr).1 (hP.1 r hr).2) (by decide)
              · exact hP.pl r hr
            omega
          rw [up_ne (fun q => by omega), g2 _ _ (fun q => by omega)]
          exact h.crd hr hi
      · rw [up_ne (fun q => by omega), g2 _ _ (fun q => by omega)]; exact h.cnt hj
      · rw [up_ne (fun q => by omega), g2 _ _ (fun q => by omega)]; exact h.sco hj)
    refine ⟨J', z4, z5', z6', f1, ⟨fun x hx => ?_, ?_⟩, fun q => ?_⟩
    · rw [f2.1 x hx, up_row hx]
      funext j
      exact g2 x j (fun q => hx q.1)
    · rw [f2.2, up_ne (fun q => by omega), g2 _ _ (fun q => by omega)]
    · rw [q51_2]
      have g3' := g3 q
      rw [show nI ([] : List Nat).length = (0 : Int32) from rfl, show nI 0 = (0 : Int32) from rfl] at g3'
      simp only [q51_3, q51_5, q51_8, q51_9, q51_11, q51_12, show (nI p < 6) ↔ True from iff_true_intro (by rw [show (6 : Int32) = nI 6 from rfl, sm_lt (by omega) (by omega)]; omega), ex_eq, ex_ite, pm_bk_r, pm_bk_t, ol_nil, ol_one, true_and, and_true, false_and, and_false, reduceIte, Nat.reduceEqDiff, up_at, Nat.add_left_cancel_iff, g3', q51_73, q51_74, q51_77, q51_78, q51_80, q51_81, q51_84, W_1, W_I, W_mk, W_tk, pm_rv, rf_0_0, rf_0_1, rf_0_2, rf_0_3, rf_0_4, rf_0_7, rf_0_8, rf_1_0, rf_1_2, rf_3_0, rf_3_1, rf_3_6, rf_3_7, rf_3_8, rf_9_0, rf_9_1, rf_10_0, rf_10_1, rf_10_6, rf_10_7, rf_10_8, rf_17_0, rf_17_1, rf_538_2, rf_538_6, rf_538_7, rf_538_9, rf_538_11, rf_538_12, rf_538_18, rf_538_19, rf_538_22, rf_538_23, rf_538_25, rf_538_27, rf_538_28, rf_538_30, rf_538_31, rf_538_32, rf_538_33, rf_538_34, rf_538_35, rf_538_36, ob_0, ob_1, ob_3, ob_9, ob_10, ob_17, ob_538, ar_2, ar_4, ar_5, ar_6, ar_7, ar_8, ar_11, ar_12, ar_13, ar_14, ar_15, ar_16, ar_116, ar_117, ar_539, ar_540, ar_541, ar_542, ar_543, ar_544, ar_545, ar_546, ar_547, ar_548, ar_549, ar_550, ar_551, ar_552, ar_553, ar_554, ar_555, ar_556, ar_557, ar_558, sm_in (show p < 2147483648 by omega), show p < 157 by omega, sm_cl (show p < 2147483648 by omega), sm_s, f3]
theorem c51 {P : Pos} (h : MP 549 0 P I) (hP : PD P) {c p : Nat} (hc : c < 24) (hp : p < 6) : ∃ J, MP 549 0 (a_go P c p) J ∧ FG I J ∧ ∀ q, (pm_C (d + 2) 51 [.ref 538, .int (nI c), .int (nI p)] (Wm I k o) q ↔ q = (.inl none, Wm J k o)) := by
  have h0 : MP 549 0 (a_pp P c 0) I := by
    have e : a_pp P c 0 = P := by
      unfold a_pp
      have e1 : (fun r => if r < 0 then a_fil c (P.1 r) else P.1 r) = P.1 := by funext r; exact if_neg (by omega)
      rw [e1]
      rfl
    rw [e]
    exact h
  obtain ⟨J, z4, z5, z6, g1, g2, g3⟩ := c51_o (d := d) (k := k) (o := o) hc hP (x2 := some (.int (nI p))) 6 0 I none none none rfl h0
  have ep : ∀ r, r < 6 → (a_pp P c 6).1 r = a_fil c (P.1 r) := fun r hr => if_pos hr
  have hlen := g1.len hp
  rw [ep p hp] at hlen
  have h23 := fil_23 hc (hP.1 p hp).1 (hP.1 p hp).2
  refine ⟨pm_up (pm_up J 549 (13 + 24 * p + (a_fil c (P.1 p)).length) (nI c)) 549 p (nI ((a_fil c (P.1 p)).length + 1)), ?_, ⟨fun x hx => ?_, ?_⟩, fun q => ?_⟩
  · refine MP.mk0 (fun r hr => ?_) (fun j hj => ?_) (fun j hj => ?_)
    · by_cases er : r = p
      · subst er
        have e1 : (a_go P c r).1 r = a_fil c (P.1 r) ++ [c] := if_pos rfl
        rw [e1]
        refine ⟨by rw [up_eq]; simp, fun i hi => ?_⟩
        rw [up_ne (fun q => by omega)]
        by_cases ei : i = (a_fil c (P.1 r)).length
        · subst ei
          rw [up_eq, List.getD_eq_getElem?_getD, List.getElem?_append_right (by omega)]
          simp
        · have hi' : i < (a_fil c (P.1 r)).length := by simp at hi; omega
          have := g1.crd hr (i := i) (by rw [ep r hr]; exact hi')
          rw [ep r hr] at this
          rw [up_ne (fun q => by omega), this, List.getD_eq_getElem?_getD, List.getD_eq_getElem?_getD, List.getElem?_append_left hi']
      · have e1 : (a_go P c p).1 r = a_fil c (P.1 r) := if_neg er
        rw [e1]
        have h24 := fil_23 hc (hP.1 r hr).1 (hP.1 r hr).2
        refine ⟨?_, fun i hi => ?_⟩
        · have := g1.len hr
          rw [ep r hr] at this
          rw [up_ne (fun q => by omega), up_ne (fun q => by omega), this]
        · have := g1.crd hr (i := i) (by rw [ep r hr]; exact hi)
          rw [ep r hr] at this
          rw [up_ne (fun q => by omega), up_ne (fun q => by omega), this]
    · rw [up_ne (fun q => by omega), up_ne (fun q => by omega)]; exact g1.cnt hj
    · rw [up_ne (fun q => by omega), up_ne (fun q => by omega)]; exact g1.sco hj
  · rw [up_row hx, up_row hx]; exact g2.1 x hx
  · rw [up_ne (fun q => by omega), up_ne (fun q => by omega)]; exact g2.2
  · have g3' := g3 q
    rw [show nI 0 = (0 : Int32) from rfl] at g3'
    rw [n51]
    simp only [q51_0, q51_1, g3', q51_87, q51_88, q51_91, q51_92, q51_93, q51_96, q51_97, q51_98, q51_101, q51_102, q51_103, q51_104, q51_107, q51_108, q51_109, q51_110, q51_111, q51_112, q51_113, W_1, W_I, W_mk, W_tk, pm_rv, rf_0_0, rf_0_1, rf_0_2, rf_0_3, rf_0_4, rf_0_7, rf_0_8, rf_1_0, rf_1_2, rf_3_0, rf_3_1, rf_3_6, rf_3_7, rf_3_8, rf_9_0, rf_9_1, rf_10_0, rf_10_1, rf_10_6, rf_10_7, rf_10_8, rf_17_0, rf_17_1, rf_538_2, rf_538_6, rf_538_7, rf_538_9, rf_538_11, rf_538_12, rf_538_18, rf_538_19, rf_538_22, rf_538_23, rf_538_25, rf_538_27, rf_538_28, rf_538_30, rf_538_31, rf_538_32, rf_538_33, rf_538_34, rf_538_35, rf_538_36, ob_0, ob_1, ob_3, ob_9, ob_10, ob_17, ob_538, ar_2, ar_4, ar_5, ar_6, ar_7, ar_8, ar_11, ar_12, ar_13, ar_14, ar_15, ar_16, ar_116, ar_117, ar_539, ar_540, ar_541, ar_542, ar_543, ar_544, ar_545, ar_546, ar_547, ar_548, ar_549, ar_550, ar_551, ar_552, ar_553, ar_554, ar_555, ar_556, ar_557, ar_558, ex_eq, ex_ite, pm_bk_r, pm_bk_t, ol_nil, ol_one, true_and, and_true, false_and, and_false, reduceIte, Nat.reduceEqDiff, up_at, Nat.add_left_cancel_iff, sm_in (show p < 2147483648 by omega), show p < 157 by omega, sm_cl (show p < 2147483648 by omega), hlen, c49, sm_in (show 13 + 24 * p + (a_fil c (P.1 p)).length < 2147483648 by omega), show 13 + 24 * p + (a_fil c (P.1 p)).length < 157 by omega, sm_cl (show 13 + 24 * p + (a_fil c (P.1 p)).length < 2147483648 by omega), show ¬ (p = 13 + 24 * p + (a_fil c (P.1 p)).length) by omega, sm_s]
theorem c60_l {c s : Nat} {l : List Nat} (hc : c < 24) (hs : s < 6) (hl : l.length ≤ 24) (h0 : I 549 s = nI l.length) (h1 : ∀ i, i < l.length → I 549 (13 + 24 * s + i) = nI (l.getD i 0)) (h2 : ∀ a ∈ l, a < 24) : ∀ (n i : Nat) (b : Bool), i + n = l.length →
    (pm_R (d + 1) 60 5 [some (.ref 538), some (.int (nI c)), some (.int (nI s)), some (.int (if b = true then 1 else 0)), some (.int (nI i))] [] (Wm I k o) q ↔ q = (.inl (some (.int (if b = true ∨ c ∈ l.drop i then 1 else 0))), Wm I k o)) := by
  intro n
  induction n with
  | zero =>
    intro i b hi
    have e : l.drop i = [] := List.drop_eq_nil_of_le (by omega)
    have e2 : (if b = true ∨ c ∈ l.drop i then (1 : Int32) else 0) = if b = true then 1 else 0 := by rw [e]; simp
    rw [q60_5, e2]
    cases b <;> simp (decide := true) only [q60_7, q60_8, q60_11, q60_12, q60_13, q60_47, q60_48, W_1, W_I, W_mk, W_tk, pm_rv, rf_0_0, rf_0_1, rf_0_2, rf_0_3, rf_0_4, rf_0_7, rf_0_8, rf_1_0, rf_1_2, rf_3_0, rf_3_1, rf_3_6, rf_3_7, rf_3_8, rf_9_0, rf_9_1, rf_10_0, rf_10_1, rf_10_6, rf_10_7, rf_10_8, rf_17_0, rf_17_1, rf_538_2, rf_538_6, rf_538_7, rf_538_9, rf_538_11, rf_538_12, rf_538_18, rf_538_19, rf_538_22, rf_538_23, rf_538_25, rf_538_27, rf_538_28, rf_538_30, rf_538_31, rf_538_32, rf_538_33, rf_538_34, rf_538_35, rf_538_36, ob_0, ob_1, ob_3, ob_9, ob_10, ob_17, ob_538, ar_2, ar_4, ar_5, ar_6, ar_7, ar_8, ar_11, ar_12, ar_13, ar_14, ar_15, ar_16, ar_116, ar_117, ar_539, ar_540, ar_541, ar_542, ar_543, ar_544, ar_545, ar_546, ar_547, ar_548, ar_549, ar_550, ar_551, ar_552, ar_553, ar_554, ar_555, ar_556, ar_557, ar_558, ex_eq, ex_ite, pm_bk_r, pm_bk_t, ol_nil, ol_one, true_and, and_true, false_and, and_false, reduceIte, Nat.reduceEqDiff, up_at, Nat.add_left_cancel_iff, sm_in (show s < 2147483648 by omega), show s < 157 by omega, sm_cl (show s < 2147483648 by omega), h0, show (nI i < nI l.length) ↔ False from iff_false_intro (by rw [sm_lt (by omega) (by omega)]; omega)]
  | succ n ih =>
    intro i b hi
    have hi' : i < l.length := by omega
    have hg : l.getD i 0 = l[i] := by rw [List.getD_eq_getElem?_getD, List.getElem?_eq_getElem hi']; rfl
    have hlt : l.getD i 0 < 24 := by rw [hg]; exact h2 _ (List.getElem_mem hi')
    have e : l.drop i = l.getD i 0 :: l.drop (i + 1) := by rw [hg]; exact List.drop_eq_getElem_cons hi'
    have hinj : (nI (l.getD i 0) = nI c) ↔ l.getD i 0 = c := sm_inj (by omega) (by omega)
    rw [q60_5]
    have hgo : ∀ b' : Bool, (b' = true ↔ (b = true ∨ l.getD i 0 = c)) → ((pm_R (d + 1) 60 40 [some (.ref 538), some (.int (nI c)), some (.int (nI s)), some (.int (if b = true then 1 else 0)), some (.int (nI i))] [.int (if b' = true then 1 else 0)] (Wm I k o) q) ↔ q = (.inl (some (.int (if b = true ∨ c ∈ l.drop i then 1 else 0))), Wm I k o)) := by
      intro b' hb'
      have e3 : (b = true ∨ c ∈ l.drop i) ↔ (b' = true ∨ c ∈ l.drop (i + 1)) := by
        rw [hb', e, List.mem_cons, or_assoc]
        exact or_congr Iff.rfl (or_congr eq_comm Iff.rfl)
      simp only [q60_40, q60_41, q60_44, sm_s, ih (i + 1) b' (by omega), e3]
    have hopen : ∀ r : Prop, ((pm_R (d + 1) 60 35 [some (.ref 538), some (.int (nI c)), some (.int (nI s)), some (.int (if b = true then 1 else 0)), some (.int (nI i))] [] (Wm I k o) q) ↔ (pm_R (d + 1) 60 40 [some (.ref 538), some (.int (nI c)), some (.int (nI s)), some (.int (if b = true then 1 else 0)), some (.int (nI i))] [.int 1] (Wm I k o) q)) := by
      intro _
      simp only [q60_35, q60_36]
    simp only [q60_7, q60_8, q60_11, q60_12, q60_13, q60_16, W_1, W_I, W_mk, W_tk, pm_rv, rf_0_0, rf_0_1, rf_0_2, rf_0_3, rf_0_4, rf_0_7, rf_0_8, rf_1_0, rf_1_2, rf_3_0, rf_3_1, rf_3_6, rf_3_7, rf_3_8, rf_9_0, rf_9_1, rf_10_0, rf_10_1, rf_10_6, rf_10_7, rf_10_8, rf_17_0, rf_17_1, rf_538_2, rf_538_6, rf_538_7, rf_538_9, rf_538_11, rf_538_12, rf_538_18, rf_538_19, rf_538_22, rf_538_23, rf_538_25, rf_538_27, rf_538_28, rf_538_30, rf_538_31, rf_538_32, rf_538_33, rf_538_34, rf_538_35, rf_538_36, ob_0, ob_1, ob_3, ob_9, ob_10, ob_17, ob_538, ar_2, ar_4, ar_5, ar_6, ar_7, ar_8, ar_11, ar_12, ar_13, ar_14, ar_15, ar_16, ar_116, ar_117, ar_539, ar_540, ar_541, ar_542, ar_543, ar_544, ar_545, ar_546, ar_547, ar_548, ar_549, ar_550, ar_551, ar_552, ar_553, ar_554, ar_555, ar_556, ar_557, ar_558, ex_eq, ex_ite, pm_bk_r, pm_bk_t, ol_nil, ol_one, true_and, and_true, false_and, and_false, reduceIte, Nat.reduceEqDiff, up_at, Nat.add_left_cancel_iff, sm_in (show s < 2147483648 by omega), show s < 157 by omega, sm_cl (show s < 2147483648 by omega), h0, show (nI i < nI l.length) ↔ True from iff_true_intro (by rw [sm_lt (by omega) (by omega)]; omega), q60_17]
    cases b with
    | true =>
      rw [if_neg (by decide), hopen True]
      exact hgo true (by simp)
    | false =>
      rw [if_pos (by decide)]
      simp only [q60_20, q60_21, q60_24, q60_25, q60_27, q60_30, q60_31, q60_32, W_1, W_I, W_mk, W_tk, pm_rv, rf_0_0, rf_0_1, rf_0_2, rf_0_3, rf_0_4, rf_0_7, rf_0_8, rf_1_0, rf_1_2, rf_3_0, rf_3_1, rf_3_6, rf_3_7, rf_3_8, rf_9_0, rf_9_1, rf_10_0, rf_10_1, rf_10_6, rf_10_7, rf_10_8, rf_17_0, rf_17_1, rf_538_2, rf_538_6, rf_538_7, rf_538_9, rf_538_11, rf_538_12, rf_538_18, rf_538_19, rf_538_22, rf_538_23, rf_538_25, rf_538_27, rf_538_28, rf_538_30, rf_538_31, rf_538_32, rf_538_33, rf_538_34, rf_538_35, rf_538_36, ob_0, ob_1, ob_3, ob_9, ob_10, ob_17, ob_538, ar_2, ar_4, ar_5, ar_6, ar_7, ar_8, ar_11, ar_12, ar_13, ar_14, ar_15, ar_16, ar_116, ar_117, ar_539, ar_540, ar_541, ar_542, ar_543, ar_544, ar_545, ar_546, ar_547, ar_548, ar_549, ar_550, ar_551, ar_552, ar_553, ar_554, ar_555, ar_556, ar_557, ar_558, ex_eq, ex_ite, pm_bk_r, pm_bk_t, ol_nil, ol_one, true_and, and_true, false_and, and_false, reduceIte, Nat.reduceEqDiff, up_at, Nat.add_left_cancel_iff, c49, sm_in (show 13 + 24 * s + i < 2147483648 by omega), show 13 + 24 * s + i < 157 by omega, sm_cl (show 13 + 24 * s + i < 2147483648 by omega), h1 i hi', hinj]
      by_cases ec : l.getD i 0 = c
      · rw [if_pos ec, hopen True]
        exact hgo true (iff_of_true rfl (Or.inr ec))
      · rw [if_neg ec]
        simp only [q60_39]
        exact hgo false (by simp only [ec]; simp)
theorem c60 {P : Pos} (h : MP 549 0 P I) (hP : PD P) {c s : Nat} (hc : c < 24) (hs : s < 6) : pm_C (d + 2) 60 [.ref 538, .int (nI c), .int (nI s)] (Wm I k o) q ↔ q = (.inl (some (.int (if c ∈ P.1 s then 1 else 0))), Wm I k o) := by
  have := c60_l (d := d) (k := k) (o := o) (q := q) hc hs (hP.pl s hs) (h.len hs) (fun i hi => h.crd hs hi) (hP.1 s hs).2 (P.1 s).length 0 false (by omega)
  rw [n60]
  simp only [q60_0, q60_1, q60_2, q60_3]
  simp only [Bool.false_eq_true, false_or, reduceIte, List.drop_zero] at this
  exact this
end MOD
