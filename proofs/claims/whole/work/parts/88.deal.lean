/-! DEAL: the reference's call -/
def t_deal (r : Int32 ⊕ Nat) : Int32 := match r with
  | .inl _ => 0
  | .inr 1 => 1
  | .inr _ => 2
section DEC
variable {d k : Nat} {o : Int64}
theorem c62_z {y1 y2 y4 y5 y6 y7 : Option Value} : ∀ m i (I : Nat → Nat → Int32), i + m = 157 → ∃ J, (∀ j, i ≤ j → j < 157 → J 549 j = 0) ∧ (∀ x j, ¬ (x = 549 ∧ i ≤ j) → J x j = I x j) ∧ ∀ q, (pm_R (d + 2) 62 35 [some (.ref 538), y1, y2, some (.int (nI i)), y4, y5, y6, y7] [] (Wm I k o) q ↔ pm_R (d + 2) 62 55 [some (.ref 538), y1, y2, some (.int (nI 157)), y4, y5, y6, y7] [] (Wm J k o) q) := by
  intro m
  induction m with
  | zero =>
    intro i I hi
    obtain rfl : i = 157 := by omega
    refine ⟨I, fun j h1 h2 => by omega, fun _ _ _ => rfl, fun q => ?_⟩
    rw [q62_35]
    simp (decide := true) only [q62_36, q62_39, ex_eq, ex_ite, pm_bk_r, pm_bk_t, ol_nil, ol_one, true_and, and_true, false_and, and_false, reduceIte, Nat.reduceEqDiff, up_at, Nat.add_left_cancel_iff]
  | succ m ih =>
    intro i I hi
    obtain ⟨J, g1, g2, g3⟩ := ih (i + 1) (pm_up I 549 i 0) (by omega)
    refine ⟨J, fun j h1 h2 => ?_, fun x j hx => ?_, fun q => ?_⟩
    · by_cases e : j = i
      · subst e
        rw [g2 _ _ (by omega), up_eq]
      · exact g1 j (by omega) h2
    · rw [g2 x j (by omega), up_ne (by omega)]
    · rw [q62_35]
      simp (decide := true) only [q62_36, q62_39, q62_42, q62_43, q62_46, q62_47, q62_48, q62_49, q62_52, W_1, W_I, W_mk, W_tk, pm_rv, rf_0_0, rf_0_1, rf_0_2, rf_0_3, rf_0_4, rf_0_7, rf_0_8, rf_1_0, rf_1_2, rf_3_0, rf_3_1, rf_3_6, rf_3_7, rf_3_8, rf_9_0, rf_9_1, rf_10_0, rf_10_1, rf_10_6, rf_10_7, rf_10_8, rf_17_0, rf_17_1, rf_538_2, rf_538_6, rf_538_7, rf_538_9, rf_538_11, rf_538_12, rf_538_18, rf_538_19, rf_538_22, rf_538_23, rf_538_25, rf_538_27, rf_538_28, rf_538_30, rf_538_31, rf_538_32, rf_538_33, rf_538_34, rf_538_35, rf_538_36, ob_0, ob_1, ob_3, ob_9, ob_10, ob_17, ob_538, ar_2, ar_4, ar_5, ar_6, ar_7, ar_8, ar_11, ar_12, ar_13, ar_14, ar_15, ar_16, ar_116, ar_117, ar_539, ar_540, ar_541, ar_542, ar_543, ar_544, ar_545, ar_546, ar_547, ar_548, ar_549, ar_550, ar_551, ar_552, ar_553, ar_554, ar_555, ar_556, ar_557, ar_558, ex_eq, ex_ite, pm_bk_r, pm_bk_t, ol_nil, ol_one, true_and, and_true, false_and, and_false, reduceIte, Nat.reduceEqDiff, up_at, Nat.add_left_cancel_iff, show (nI i < 157) ↔ True from iff_true_intro (by rw [show (157 : Int32) = nI 157 from rfl, sm_lt (by omega) (by omega)]; omega), sm_in (show i < 2147483648 by omega), show i < 157 by omega, sm_cl (show i < 2147483648 by omega), sm_s, g3]
theorem c62_i {N : Nat} (hN : N ≤ 24) {y1 y2 y5 y6 y7 : Option Value} : ∀ m i (I : Nat → Nat → Int32), i + m = N → ∃ J, (∀ j, i ≤ j → j < N → J 558 j = nI j) ∧ (∀ x j, ¬ (x = 558 ∧ i ≤ j) → J x j = I x j) ∧ ∀ q, (pm_R (d + 2) 62 68 [some (.ref 538), y1, y2, some (.int (nI N)), some (.int (nI i)), y5, y6, y7] [] (Wm I k o) q ↔ pm_R (d + 2) 62 89 [some (.ref 538), y1, y2, some (.int (nI N)), some (.int (nI N)), y5, y6, y7] [] (Wm J k o) q) := by
  intro m
  induction m with
  | zero =>
    intro i I hi
    obtain rfl : i = N := by omega
    refine ⟨I, fun j h1 h2 => by omega, fun _ _ _ => rfl, fun q => ?_⟩
    rw [q62_68]
    simp only [q62_70, q62_71, ex_eq, ex_ite, pm_bk_r, pm_bk_t, ol_nil, ol_one, true_and, and_true, false_and, and_false, reduceIte, Nat.reduceEqDiff, up_at, Nat.add_left_cancel_iff, show (nI i < nI i) ↔ False from iff_false_intro (by rw [sm_lt (by omega) (by omega)]; omega)]
  | succ m ih =>
    intro i I hi
    obtain ⟨J, g1, g2, g3⟩ := ih (i + 1) (pm_up I 558 i (nI i)) (by omega)
    refine ⟨J, fun j h1 h2 => ?_, fun x j hx => ?_, fun q => ?_⟩
    · by_cases e : j = i
      · subst e
        rw [g2 _ _ (by omega), up_eq]
      · exact g1 j (by omega) h2
    · rw [g2 x j (by omega), up_ne (by omega)]
    · rw [q62_68]
      simp only [q62_70, q62_71, q62_74, q62_75, q62_78, q62_80, q62_82, q62_83, q62_86, W_1, W_I, W_mk, W_tk, pm_rv, rf_0_0, rf_0_1, rf_0_2, rf_0_3, rf_0_4, rf_0_7, rf_0_8, rf_1_0, rf_1_2, rf_3_0, rf_3_1, rf_3_6, rf_3_7, rf_3_8, rf_9_0, rf_9_1, rf_10_0, rf_10_1, rf_10_6, rf_10_7, rf_10_8, rf_17_0, rf_17_1, rf_538_2, rf_538_6, rf_538_7, rf_538_9, rf_538_11, rf_538_12, rf_538_18, rf_538_19, rf_538_22, rf_538_23, rf_538_25, rf_538_27, rf_538_28, rf_538_30, rf_538_31, rf_538_32, rf_538_33, rf_538_34, rf_538_35, rf_538_36, ob_0, ob_1, ob_3, ob_9, ob_10, ob_17, ob_538, ar_2, ar_4, ar_5, ar_6, ar_7, ar_8, ar_11, ar_12, ar_13, ar_14, ar_15, ar_16, ar_116, ar_117, ar_539, ar_540, ar_541, ar_542, ar_543, ar_544, ar_545, ar_546, ar_547, ar_548, ar_549, ar_550, ar_551, ar_552, ar_553, ar_554, ar_555, ar_556, ar_557, ar_558, ex_eq, ex_ite, pm_bk_r, pm_bk_t, ol_nil, ol_one, true_and, and_true, false_and, and_false, reduceIte, Nat.reduceEqDiff, up_at, Nat.add_left_cancel_iff, show (nI i < nI N) ↔ True from iff_true_intro (by rw [sm_lt (by omega) (by omega)]; omega), sm_in (show i < 2147483648 by omega), show i < 1727 by omega, sm_cl (show i < 2147483648 by omega), sm_s, g3]
theorem c62_l {N : Nat} (hN : N ≤ 24) {y1 y2 y3 : Option Value} : ∀ i x f (I : Nat → Nat → Int32) (y6 y7 : Option Value), i < N → (∀ a, a < N → f a < N) → (∀ j, j < N → I 558 j = nI (f j)) → ∃ J z4 z6 z7, (∀ j, j < N → J 558 j = nI (a_sh i x f j)) ∧ (∀ x, x ≠ 558 → J x = I x) ∧ ∀ q, (pm_R (d + 2) 62 97 [some (.ref 538), y1, y2, y3, some (.int x), some (.int (nI i)), y6, y7] [] (Wm I k o) q ↔ pm_R (d + 2) 62 161 [some (.ref 538), y1, y2, y3, z4, some (.int 0), z6, z7] [] (Wm J k o) q) := by
  intro i
  induction i with
  | zero =>
    intro x f I y6 y7 hi hf h
    refine ⟨I, some (.int x), y6, y7, h, fun _ _ => rfl, fun q => ?_⟩
    rw [q62_97]
    simp (decide := true) only [q62_99, ex_eq, ex_ite, pm_bk_r, pm_bk_t, ol_nil, ol_one, true_and, and_true, false_and, and_false, reduceIte, Nat.reduceEqDiff, up_at, Nat.add_left_cancel_iff]
    exact Iff.rfl
  | succ i ih =>
    intro x f I y6 y7 hi hf h
    have hu := s_u_lt (s_x x)
    obtain ⟨jj, hjj⟩ : ∃ jj, jj = s_u (s_x x) % (i + 2) := ⟨_, rfl⟩
    have hj : jj < i + 2 := by rw [hjj]; exact Nat.mod_lt _ (by omega)
    have er : nI (s_u (s_x x)) - nI (s_u (s_x x)) / nI (i + 2) * nI (i + 2) = nI jj := by rw [hjj]; exact rem_nI (by omega) (by omega)
    have e0 : (nI (i + 2) = 0) ↔ False := iff_false_intro (by rw [nI_eq0 (by omega)]; omega)
    have e1 : (0 < nI (i + 1)) ↔ True := iff_true_intro (by rw [show (0 : Int32) = nI 0 from rfl, sm_lt (by omega) (by omega)]; omega)
    have em : nI (i + 1) + (-1) = nI i := by rw [← Int32.sub_eq_add_neg, show (1 : Int32) = nI 1 from rfl, sm_sub (by omega)]; rfl
    obtain ⟨J, z4, z6, z7, g1, g2, g3⟩ := ih (s_x x) (s_sw f (i + 1) jj) (pm_up (pm_up I 558 (i + 1) (nI (f jj))) 558 jj (nI (f (i + 1)))) (some (.int (nI jj))) (some (.int (nI (f (i + 1))))) (by omega) (fun a ha => by
      unfold s_sw
      split
      · exact hf _ (by omega)
      · split
        · exact hf _ (by omega)
        · exact hf a ha) (fun j hj' => by
      unfold s_sw
      by_cases ej : j = jj
      · rw [if_pos ej, ej, up_eq]
      · rw [if_neg ej, up_ne (by omega)]
        by_cases ei : j = i + 1
        · rw [if_pos ei, ei, up_eq]
        · rw [if_neg ei, up_ne (by omega)]
          exact h j hj')
    refine ⟨J, z4, z6, z7, by rw [hjj] at g1; exact g1, fun x hx => by rw [g2 x hx, up_row hx, up_row hx], fun q => ?_⟩
    have ex : x * 22695477 + 1 = s_x x := rfl
    have hfi := h (i + 1) (by omega)
    have hfj := h jj (by omega)
    rw [q62_97]
    simp (decide := true) only [q62_99, q62_102, q62_104, q62_106, q62_107, q62_108, q62_109, q62_111, q62_113, q62_115, q62_116, q62_118, q62_119, q62_120, q62_121, q62_123, q62_124, q62_127, q62_129, q62_130, q62_132, q62_133, q62_136, q62_138, q62_139, q62_142, q62_144, q62_145, q62_146, q62_147, q62_150, q62_152, q62_154, q62_155, q62_158, W_1, W_I, W_mk, W_tk, pm_rv, rf_0_0, rf_0_1, rf_0_2, rf_0_3, rf_0_4, rf_0_7, rf_0_8, rf_1_0, rf_1_2, rf_3_0, rf_3_1, rf_3_6, rf_3_7, rf_3_8, rf_9_0, rf_9_1, rf_10_0, rf_10_1, rf_10_6, rf_10_7, rf_10_8, rf_17_0, rf_17_1, rf_538_2, rf_538_6, rf_538_7, rf_538_9, rf_538_11, rf_538_12, rf_538_18, rf_538_19, rf_538_22, rf_538_23, rf_538_25, rf_538_27, rf_538_28, rf_538_30, rf_538_31, rf_538_32, rf_538_33, rf_538_34, rf_538_35, rf_538_36, ob_0, ob_1, ob_3, ob_9, ob_10, ob_17, ob_538, ar_2, ar_4, ar_5, ar_6, ar_7, ar_8, ar_11, ar_12, ar_13, ar_14, ar_15, ar_16, ar_116, ar_117, ar_539, ar_540, ar_541, ar_542, ar_543, ar_544, ar_545, ar_546, ar_547, ar_548, ar_549, ar_550, ar_551, ar_552, ar_553, ar_554, ar_555, ar_556, ar_557, ar_558, ex_eq, ex_ite, pm_bk_r, pm_bk_t, ol_nil, ol_one, true_and, and_true, false_and, and_false, reduceIte, Nat.reduceEqDiff, up_at, Nat.add_left_cancel_iff, e1, ex, ush, sm_s, Nat.add_assoc, Nat.reduceAdd, e0, not_false_eq_true, er, sm_in (show i + 1 < 2147483648 by omega), show i + 1 < 1727 by omega, sm_cl (show i + 1 < 2147483648 by omega), sm_in (show jj < 2147483648 by omega), show jj < 1727 by omega, sm_cl (show jj < 2147483648 by omega), hfi, hfj, em, g3]
/-- the cards dealt -/
theorem c62_a {N mm : Nat} {f : Nat → Nat} (hf : PM N f) (hN : N ≤ 24) {n c2 : Int32} (hc2 : 2 * (if n < 24 then n else 24) = c2) (hmm : c2 = nI mm) (hm : mm ≤ 48) {y1 y3 y4 y7 : Option Value} : ∀ t i (I : Nat → Nat → Int32), i + t = min mm N → MP 549 0 (a_d1 f N i) I → (∀ j, j < N → I 558 j = nI (f j)) →
    ∃ J z6, MP 549 0 (a_d1 f N (min mm N)) J ∧ FG I J ∧ ∀ q, (pm_R (d + 2) 62 167 [some (.ref 538), y1, some (.int n), y3, y4, some (.int (nI (N - i))), some (.int (nI i)), y7] [] (Wm I k o) q ↔ pm_R (d + 2) 62 215 [some (.ref 538), y1, some (.int n), y3, y4, some (.int (nI (N - min mm N))), z6, y7] [] (Wm J k o) q) := by
  have hhead : ∀ i (I : Nat → Nat → Int32) (lft : Nat), ∀ q, (pm_R (d + 2) 62 167 [some (.ref 538), y1, some (.int n), y3, y4, some (.int (nI lft)), some (.int (nI i)), y7] [] (Wm I k o) q ↔ if nI i < c2 then pm_R (d + 2) 62 186 [some (.ref 538), y1, some (.int n), y3, y4, some (.int (nI lft)), some (.int (nI i)), y7] [] (Wm I k o) q else pm_R (d + 2) 62 215 [some (.ref 538), y1, some (.int n), y3, y4, some (.int (nI lft)), some (.int (nI i)), y7] [] (Wm I k o) q) := by
    intro i I lft q
    rw [q62_167, ← hc2]
    by_cases n24 : n < 24
    · simp (decide := true) only [q62_169, q62_170, q62_171, q62_173, q62_176, q62_177, q62_180, q62_182, q62_183, ex_eq, ex_ite, pm_bk_r, pm_bk_t, ol_nil, ol_one, true_and, and_true, false_and, and_false, reduceIte, Nat.reduceEqDiff, up_at, Nat.add_left_cancel_iff, n24]
    · simp (decide := true) only [q62_169, q62_170, q62_171, q62_173, q62_176, q62_177, q62_180, q62_182, q62_183, ex_eq, ex_ite, pm_bk_r, pm_bk_t, ol_nil, ol_one, true_and, and_true, false_and, and_false, reduceIte, Nat.reduceEqDiff, up_at, Nat.add_left_cancel_iff, n24]
  intro t
  induction t with
  | zero =>
    intro i I hi hP hd
    obtain rfl : i = min mm N := by omega
    refine ⟨I, some (.int (nI (min mm N))), hP, ⟨fun _ _ => rfl, rfl⟩, fun q => ?_⟩
    have e1 : (nI (min mm N) < c2) ↔ min mm N < mm := by rw [hmm]; exact sm_lt (by omega) (by omega)
    rw [hhead]
    by_cases c : min mm N < mm
    · rw [if_pos (e1.mpr c)]
      have hz : N - min mm N = 0 := by omega
      rw [hz]
      simp (decide := true) only [q62_186, q62_188, ex_eq, ex_ite, pm_bk_r, pm_bk_t, ol_nil, ol_one, true_and, and_true, false_and, and_false, reduceIte, Nat.reduceEqDiff, up_at, Nat.add_left_cancel_iff]
    · rw [if_neg (fun q => c (e1.mp q))]
  | succ t ih =>
    intro i I hi hP hd
    have hiN : i < N := by omega
    have him : i < mm := by omega
    have hok := d1_ok hf hN i (by omega)
    have hc : f (N - 1 - i) < 24 := by have := hf.1 (N - 1 - i) (by omega); omega
    obtain ⟨I1, a1, a2, a3⟩ := c51 (d := d) (k := k) (o := o) (p := i % 2) hP hok.1 hc (by omega)
    have a1 : MP 549 0 (a_d1 f N (i + 1)) I1 := a1
    obtain ⟨J, z6, g1, g2, g3⟩ := ih (i + 1) I1 (by omega) a1 (fun j hj => by rw [a2.1 558 (by omega)]; exact hd j hj)
    refine ⟨J, z6, g1, ⟨fun x hx => by rw [g2.1 x hx, a2.1 x hx], by rw [g2.2, a2.2]⟩, fun q => ?_⟩
    have e1 : nI i < c2 := by rw [hmm]; exact (sm_lt (by omega) (by omega)).mpr him
    have hpos : (0 < nI (N - i)) ↔ True := iff_true_intro (by rw [show (0 : Int32) = nI 0 from rfl, sm_lt (by omega) (by omega)]; omega)
    have em : nI (N - i) + (-1) = nI (N - 1 - i) := by
      rw [← Int32.sub_eq_add_neg, show (1 : Int32) = nI 1 from rfl, sm_sub (by omega)]
      congr 1
      omega
    have em2 : nI i - nI i / 2 * 2 = nI (i % 2) := rem_nI (u := i) (m := 2) (by omega) (by omega)
    have g3' := g3 q
    rw [show N - (i + 1) = N - 1 - i by omega] at g3'
    rw [hhead, if_pos e1]
    simp (decide := true) only [q62_186, q62_188, q62_191, q62_194, q62_195, q62_196, q62_199, q62_201, q62_202, q62_204, q62_205, q62_206, q62_209, q62_212, W_1, W_I, W_mk, W_tk, pm_rv, rf_0_0, rf_0_1, rf_0_2, rf_0_3, rf_0_4, rf_0_7, rf_0_8, rf_1_0, rf_1_2, rf_3_0, rf_3_1, rf_3_6, rf_3_7, rf_3_8, rf_9_0, rf_9_1, rf_10_0, rf_10_1, rf_10_6, rf_10_7, rf_10_8, rf_17_0, rf_17_1, rf_538_2, rf_538_6, rf_538_7, rf_538_9, rf_538_11, rf_538_12, rf_538_18, rf_538_19, rf_538_22, rf_538_23, rf_538_25, rf_538_27, rf_538_28, rf_538_30, rf_538_31, rf_538_32, rf_538_33, rf_538_34, rf_538_35, rf_538_36, ob_0, ob_1, ob_3, ob_9, ob_10, ob_17, ob_538, ar_2, ar_4, ar_5, ar_6, ar_7, ar_8, ar_11, ar_12, ar_13, ar_14, ar_15, ar_16, ar_116, ar_117, ar_539, ar_540, ar_541, ar_542, ar_543, ar_544, ar_545, ar_546, ar_547, ar_548, ar_549, ar_550, ar_551, ar_552, ar_553, ar_554, ar_555, ar_556, ar_557, ar_558, ex_eq, ex_ite, pm_bk_r, pm_bk_t, ol_nil, ol_one, true_and, and_true, false_and, and_false, reduceIte, Nat.reduceEqDiff, up_at, Nat.add_left_cancel_iff, hpos, em, sm_in (show N - 1 - i < 2147483648 by omega), show N - 1 - i < 1727 by omega, sm_cl (show N - 1 - i < 2147483648 by omega), hd (N - 1 - i) (by omega), em2, a3, sm_s, g3', not_false_eq_true]
theorem c62_b {N m : Nat} {f : Nat → Nat} (hf : PM N f) (hN : N ≤ 24) (hm : m ≤ N) {y1 y2 y3 y4 y7 : Option Value} : ∀ t i (I : Nat → Nat → Int32), i + t = N - m → MP 549 0 (a_d2 f (a_d1 f N m) i) I → (∀ j, j < N → I 558 j = nI (f j)) →
    ∃ J z6, MP 549 0 (a_d2 f (a_d1 f N m) (N - m)) J ∧ FG I J ∧ ∀ q, (pm_R (d + 2) 62 218 [some (.ref 538), y1, y2, y3, y4, some (.int (nI (N - m))), some (.int (nI i)), y7] [] (Wm I k o) q ↔ pm_R (d + 2) 62 243 [some (.ref 538), y1, y2, y3, y4, some (.int (nI (N - m))), z6, y7] [] (Wm J k o) q) := by
  intro t
  induction t with
  | zero =>
    intro i I hi hP hd
    obtain rfl : i = N - m := by omega
    refine ⟨I, some (.int (nI (N - m))), hP, ⟨fun _ _ => rfl, rfl⟩, fun q => ?_⟩
    rw [q62_218]
    simp only [q62_220, q62_222, ex_eq, ex_ite, pm_bk_r, pm_bk_t, ol_nil, ol_one, true_and, and_true, false_and, and_false, reduceIte, Nat.reduceEqDiff, up_at, Nat.add_left_cancel_iff, show (nI (N - m) < nI (N - m)) ↔ False from iff_false_intro (by rw [sm_lt (by omega) (by omega)]; omega)]
  | succ t ih =>
    intro i I hi hP hd
    have hok := d2_ok hf hN hm i (by omega)
    have hc : f i < 24 := by have := hf.1 i (by omega); omega
    obtain ⟨I1, a1, a2, a3⟩ := c51 (d := d) (k := k) (o := o) (p := 2) hP hok.1 hc (by omega)
    have a3' : ∀ q, (pm_C (d + 2) 51 [.ref 538, .int (nI (f i)), .int 2] (Wm I k o) q ↔ q = (.inl none, Wm I1 k o)) := a3
    have a1 : MP 549 0 (a_d2 f (a_d1 f N m) (i + 1)) I1 := a1
    obtain ⟨J, z6, g1, g2, g3⟩ := ih (i + 1) I1 (by omega) a1 (fun j hj => by rw [a2.1 558 (by omega)]; exact hd j hj)
    refine ⟨J, z6, g1, ⟨fun x hx => by rw [g2.1 x hx, a2.1 x hx], by rw [g2.2, a2.2]⟩, fun q => ?_⟩
    rw [q62_218]
    simp (decide := true) only [q62_220, q62_222, q62_225, q62_226, q62_227, q62_230, q62_232, q62_233, q62_234, q62_237, q62_240, W_1, W_I, W_mk, W_tk, pm_rv, rf_0_0, rf_0_1, rf_0_2, rf_0_3, rf_0_4, rf_0_7, rf_0_8, rf_1_0, rf_1_2, rf_3_0, rf_3_1, rf_3_6, rf_3_7, rf_3_8, rf_9_0, rf_9_1, rf_10_0, rf_10_1, rf_10_6, rf_10_7, rf_10_8, rf_17_0, rf_17_1, rf_538_2, rf_538_6, rf_538_7, rf_538_9, rf_538_11, rf_538_12, rf_538_18, rf_538_19, rf_538_22, rf_538_23, rf_538_25, rf_538_27, rf_538_28, rf_538_30, rf_538_31, rf_538_32, rf_538_33, rf_538_34, rf_538_35, rf_538_36, ob_0, ob_1, ob_3, ob_9, ob_10, ob_17, ob_538, ar_2, ar_4, ar_5, ar_6, ar_7, ar_8, ar_11, ar_12, ar_13, ar_14, ar_15, ar_16, ar_116, ar_117, ar_539, ar_540, ar_541, ar_542, ar_543, ar_544, ar_545, ar_546, ar_547, ar_548, ar_549, ar_550, ar_551, ar_552, ar_553, ar_554, ar_555, ar_556, ar_557, ar_558, ex_eq, ex_ite, pm_bk_r, pm_bk_t, ol_nil, ol_one, true_and, and_true, false_and, and_false, reduceIte, Nat.reduceEqDiff, up_at, Nat.add_left_cancel_iff, show (nI i < nI (N - m)) ↔ True from iff_true_intro (by rw [sm_lt (by omega) (by omega)]; omega), sm_in (show i < 2147483648 by omega), show i < 1727 by omega, sm_cl (show i < 2147483648 by omega), hd i (by omega), a3', sm_s, g3]
theorem m62 {S : AS} {I : Nat → Nat → Int32} (hA : AOK S) (h : MI S I) {seed n : Int32} : MOK (o_deal S seed n).1 (t_deal (o_deal S seed n).2) (m_val (o_deal S seed n).2) I k o (fun M q => pm_C (d + 3) 62 [.ref 538, .int seed, .int n] M q) := by
  unfold o_deal
  have h2 := h.2.2.1
  cases hG : S.2.1 with
  | none =>
    rw [hG] at h2
    have h2 : I 538 14 = 0 ∧ I 538 15 = 0 ∧ I 538 16 = 0 ∧ I 538 17 = 0 ∧ I 538 21 = 0 := h2
    have ht := h.th 1
    refine ⟨_, ht.1, ht.2, up_eq, fun q => ?_⟩
    show pm_C (d + 3) 62 _ _ q ↔ _
    rw [n62]
    simp (decide := true) only [q62_0, q62_1, q62_2, q62_5, q62_8, q62_9, q62_12, q62_13, q62_16, q62_17, q62_20, q62_21, q62_24, q62_25, q62_28, q62_31, q62_32, W_1, W_I, W_mk, W_tk, pm_rv, rf_0_0, rf_0_1, rf_0_2, rf_0_3, rf_0_4, rf_0_7, rf_0_8, rf_1_0, rf_1_2, rf_3_0, rf_3_1, rf_3_6, rf_3_7, rf_3_8, rf_9_0, rf_9_1, rf_10_0, rf_10_1, rf_10_6, rf_10_7, rf_10_8, rf_17_0, rf_17_1, rf_538_2, rf_538_6, rf_538_7, rf_538_9, rf_538_11, rf_538_12, rf_538_18, rf_538_19, rf_538_22, rf_538_23, rf_538_25, rf_538_27, rf_538_28, rf_538_30, rf_538_31, rf_538_32, rf_538_33, rf_538_34, rf_538_35, rf_538_36, ob_0, ob_1, ob_3, ob_9, ob_10, ob_17, ob_538, ar_2, ar_4, ar_5, ar_6, ar_7, ar_8, ar_11, ar_12, ar_13, ar_14, ar_15, ar_16, ar_116, ar_117, ar_539, ar_540, ar_541, ar_542, ar_543, ar_544, ar_545, ar_546, ar_547, ar_548, ar_549, ar_550, ar_551, ar_552, ar_553, ar_554, ar_555, ar_556, ar_557, ar_558, ex_eq, ex_ite, pm_bk_r, pm_bk_t, ol_nil, ol_one, true_and, and_true, false_and, and_false, reduceIte, Nat.reduceEqDiff, up_at, Nat.add_left_cancel_iff, h2.1, m_val]
  | some G =>
    rw [hG] at h2
    have h2 : I 538 14 = 1 ∧ GM G I := h2
    have hok := hA.2.1 G hG
    have hg := g_n24 hok.1
    simp only []
    by_cases n0 : n < 0
    · rw [if_pos n0]
      have ht := h.th 2
      refine ⟨_, ht.1, ht.2, up_eq, fun q => ?_⟩
      show pm_C (d + 3) 62 _ _ q ↔ _
      rw [n62]
      simp (decide := true) only [q62_0, q62_1, q62_2, q62_5, q62_8, q62_9, q62_12, q62_13, q62_16, q62_17, q62_20, q62_21, q62_24, q62_25, q62_28, q62_31, q62_32, W_1, W_I, W_mk, W_tk, pm_rv, rf_0_0, rf_0_1, rf_0_2, rf_0_3, rf_0_4, rf_0_7, rf_0_8, rf_1_0, rf_1_2, rf_3_0, rf_3_1, rf_3_6, rf_3_7, rf_3_8, rf_9_0, rf_9_1, rf_10_0, rf_10_1, rf_10_6, rf_10_7, rf_10_8, rf_17_0, rf_17_1, rf_538_2, rf_538_6, rf_538_7, rf_538_9, rf_538_11, rf_538_12, rf_538_18, rf_538_19, rf_538_22, rf_538_23, rf_538_25, rf_538_27, rf_538_28, rf_538_30, rf_538_31, rf_538_32, rf_538_33, rf_538_34, rf_538_35, rf_538_36, ob_0, ob_1, ob_3, ob_9, ob_10, ob_17, ob_538, ar_2, ar_4, ar_5, ar_6, ar_7, ar_8, ar_11, ar_12, ar_13, ar_14, ar_15, ar_16, ar_116, ar_117, ar_539, ar_540, ar_541, ar_542, ar_543, ar_544, ar_545, ar_546, ar_547, ar_548, ar_549, ar_550, ar_551, ar_552, ar_553, ar_554, ar_555, ar_556, ar_557, ar_558, ex_eq, ex_ite, pm_bk_r, pm_bk_t, ol_nil, ol_one, true_and, and_true, false_and, and_false, reduceIte, Nat.reduceEqDiff, up_at, Nat.add_left_cancel_iff, h2.1, n0, m_val]
    · rw [if_neg n0]
      have hn := nn_nI n0
      obtain ⟨nn, hnn⟩ : ∃ nn, nn = n.toNatClampNeg := ⟨_, rfl⟩
      rw [← hnn] at hn ⊢
      obtain ⟨N, hNN⟩ : ∃ N, N = g_n G := ⟨_, rfl⟩
      have hsr : nI G.2.1 * nI G.2.2.1 = nI N := by rw [hNN]; exact sm_mul _ _
      rw [← hNN] at hg ⊢
      obtain ⟨f, hff⟩ : ∃ f, f = a_sh (N - 1) seed (fun a => a) := ⟨_, rfl⟩
      have hf : PM N f := by rw [hff]; exact sh_ok _ _ _ (by omega) id_PM
      obtain ⟨I0, hI0⟩ : ∃ I0, I0 = pm_up I 538 0 0 := ⟨_, rfl⟩
      obtain ⟨J1, a1, a2, a3⟩ := c62_z (d := d) (k := k) (o := o) (y1 := some (.int seed)) (y2 := some (.int n)) (y4 := none) (y5 := none) (y6 := none) (y7 := none) 157 0 I0 (by omega)
      obtain ⟨J2, b1, b2, b3⟩ := c62_i (d := d) (k := k) (o := o) (y1 := some (.int seed)) (y2 := some (.int n)) (y5 := none) (y6 := none) (y7 := none) hg.2 N 0 J1 (by omega)
      obtain ⟨J3, z4, z6, z7, e1, e2, e3⟩ := c62_l (d := d) (k := k) (o := o) (y1 := some (.int seed)) (y2 := some (.int n)) (y3 := some (.int (nI N))) hg.2 (N - 1) seed (fun a => a) J2 none none (by omega) (fun a h => h) (fun j hj => b1 j (by omega) hj)
      rw [← hff] at e1
      have hz : ∀ j, j < 157 → J3 549 j = 0 := fun j hj => by rw [e2 549 (by omega), b2 549 j (by omega)]; exact a1 j (by omega) hj
      have P0 : MP 549 0 (a_d1 f N 0) J3 := MP.mk0 (fun p hp => ⟨hz p (by omega), fun i hi => (by simp [a_d1, a_nil] at hi)⟩) (fun j hj => hz _ (by omega)) (fun j hj => hz _ (by omega))
      obtain ⟨mm, hmm⟩ : ∃ mm, mm = 2 * min nn 24 := ⟨_, rfl⟩
      have hc2 : 2 * (if n < 24 then n else 24) = nI mm := by
        have hl : (n < 24) ↔ nn < 24 := by
          have : (nI nn < nI 24) ↔ nn < 24 := sm_lt hn.2 (by omega)
          rw [← hn.1] at this
          exact this
        by_cases c : n < 24
        · rw [if_pos c, hmm, Nat.min_eq_left (by have := hl.mp c; omega)]
          have := sm_mul 2 nn
          rw [← hn.1] at this
          exact this
        · rw [if_neg c, hmm, Nat.min_eq_right (Nat.le_of_not_lt (fun q => c (hl.mpr q)))]
          rfl
      have hmin : min mm N = min (2 * nn) N := by omega
      obtain ⟨J4, x6, f1, f2, f3⟩ := c62_a (d := d) (k := k) (o := o) (y1 := some (.int seed)) (y3 := some (.int (nI N))) (y4 := z4) (y7 := z7) hf hg.2 hc2 rfl (by omega) (min mm N) 0 J3 (by omega) P0 e1
      rw [hmin] at f1 f3
      have hm : min (2 * nn) N ≤ N := Nat.min_le_right _ _
      obtain ⟨J5, w6, l1, l2, l3⟩ := c62_b (d := d) (k := k) (o := o) (y1 := some (.int seed)) (y2 := some (.int n)) (y3 := some (.int (nI N))) (y4 := z4) (y7 := z7) hf hg.2 hm (N - min (2 * nn) N) 0 J4 (by omega) f1 (fun j hj => by rw [f2.1 558 (by omega)]; exact e1 j hj)
      obtain ⟨J6, hJ6⟩ : ∃ J6, J6 = pm_up (pm_up (pm_up J5 538 24 1) 538 26 0) 538 37 (-1) := ⟨_, rfl⟩
      have s6 : ∀ x j, ¬ (x = 538 ∧ (j = 24 ∨ j = 26 ∨ j = 37)) → J6 x j = J5 x j := fun x j a => by rw [hJ6, up_ne (by omega), up_ne (by omega), up_ne (by omega)]
      have st0 : ∀ x, x ≠ 549 → x ≠ 558 → J5 x = I0 x := fun x a b => by
        rw [l2.1 x a, f2.1 x a, e2 x b]
        funext j
        rw [b2 x j (by omega), a2 x j (by omega)]
      have st : ∀ x j, x ≠ 549 → x ≠ 558 → ¬ (x = 538 ∧ (j = 0 ∨ j = 24 ∨ j = 26 ∨ j = 37)) → J6 x j = I x j := fun x j a b c => by rw [s6 _ _ (by omega), st0 x a b, hI0, up_ne (by omega)]
      obtain ⟨x1, ⟨W, x2⟩, x3, x4, x5, x6', x7, x8⟩ := h
      refine ⟨J6, ⟨⟨by rw [st _ _ (by omega) (by omega) (by omega)]; exact x1.1, fun i hi => by rw [st _ _ (by omega) (by omega) (by omega)]; exact x1.2 i hi⟩, ⟨W, x2.cg (st _ _ (by omega) (by omega) (by omega)) (by funext j; exact st _ _ (by omega) (by omega) (by omega))⟩, ?_, ?_, ?_, fun P' hP' => ?_, fun h' hh' => (by simp at hh'), ?_⟩, fun x hx => by funext j; exact st _ _ (by omega) (by omega) (by omega), ?_, fun q => ?_⟩
      · exact ⟨by rw [st _ _ (by omega) (by omega) (by omega)]; exact h2.1, h2.2.congr (fun j _ _ => st _ _ (by omega) (by omega) (by omega)) (fun x a b => by funext j; exact st _ _ (by omega) (by omega) (by omega))⟩
      · rw [hJ6, up_ne (by omega), up_ne (by omega), up_eq]; rfl
      · rw [hJ6, up_ne (by omega), up_eq]; rfl
      · injection hP' with hP'
        rw [← hP']
        have : MP 549 0 (a_deal N seed nn) J5 := by unfold a_deal; rw [← hff]; exact l1
        have ht0 : (a_deal N seed nn).2.2.2 = 0 := by unfold a_deal; rw [← hff]; exact (d2_ok hf hg.2 hm _ (by omega)).2.1
        refine MF.row ⟨this, ?_⟩ (by funext j; exact s6 _ _ (by omega))
        rw [Nat.zero_add, ht0, l2.2, f2.2, hz 12 (by omega)]
        rfl
      · rw [hJ6, up_eq]
      · show J6 538 0 = 0
        rw [s6 _ _ (by omega), st0 538 (by omega) (by omega), hI0, up_eq]
      · show pm_C (d + 3) 62 _ _ q ↔ _
        have a3' := a3 q
        have b3' := b3 q
        have f3' := f3 q
        have l3' := l3 q
        rw [show nI 0 = (0 : Int32) from rfl] at a3' b3' l3'
        rw [Nat.sub_zero, show nI 0 = (0 : Int32) from rfl] at f3'
        have q15 : J1 538 15 = nI G.2.1 := by rw [a2 538 15 (by omega), hI0, up_ne (by omega)]; exact h2.2.2.1
        have q16 : J1 538 16 = nI G.2.2.1 := by rw [a2 538 16 (by omega), hI0, up_ne (by omega)]; exact h2.2.2.2.1
        have em : nI N - 1 = nI (N - 1) := by rw [show (1 : Int32) = nI 1 from rfl, sm_sub hg.1]
        have h00 : I0 538 0 = 0 := by rw [hI0, up_eq]
        rw [n62]
        simp (decide := true) only [q62_0, q62_1, q62_2, q62_5, q62_8, q62_9, q62_12, q62_13, q62_16, q62_17, q62_20, q62_21, q62_24, q62_25, q62_28, q62_31, q62_32, q62_33, q62_34, W_1, W_I, W_mk, W_tk, pm_rv, rf_0_0, rf_0_1, rf_0_2, rf_0_3, rf_0_4, rf_0_7, rf_0_8, rf_1_0, rf_1_2, rf_3_0, rf_3_1, rf_3_6, rf_3_7, rf_3_8, rf_9_0, rf_9_1, rf_10_0, rf_10_1, rf_10_6, rf_10_7, rf_10_8, rf_17_0, rf_17_1, rf_538_2, rf_538_6, rf_538_7, rf_538_9, rf_538_11, rf_538_12, rf_538_18, rf_538_19, rf_538_22, rf_538_23, rf_538_25, rf_538_27, rf_538_28, rf_538_30, rf_538_31, rf_538_32, rf_538_33, rf_538_34, rf_538_35, rf_538_36, ob_0, ob_1, ob_3, ob_9, ob_10, ob_17, ob_538, ar_2, ar_4, ar_5, ar_6, ar_7, ar_8, ar_11, ar_12, ar_13, ar_14, ar_15, ar_16, ar_116, ar_117, ar_539, ar_540, ar_541, ar_542, ar_543, ar_544, ar_545, ar_546, ar_547, ar_548, ar_549, ar_550, ar_551, ar_552, ar_553, ar_554, ar_555, ar_556, ar_557, ar_558, ex_eq, ex_ite, pm_bk_r, pm_bk_t, ol_nil, ol_one, true_and, and_true, false_and, and_false, reduceIte, Nat.reduceEqDiff, up_at, Nat.add_left_cancel_iff, h2.1, n0]
        rw [← hI0, a3']
        simp (decide := true) only [q62_55, q62_56, q62_59, q62_60, q62_63, q62_64, q62_65, q62_66, W_1, W_I, W_mk, W_tk, pm_rv, rf_0_0, rf_0_1, rf_0_2, rf_0_3, rf_0_4, rf_0_7, rf_0_8, rf_1_0, rf_1_2, rf_3_0, rf_3_1, rf_3_6, rf_3_7, rf_3_8, rf_9_0, rf_9_1, rf_10_0, rf_10_1, rf_10_6, rf_10_7, rf_10_8, rf_17_0, rf_17_1, rf_538_2, rf_538_6, rf_538_7, rf_538_9, rf_538_11, rf_538_12, rf_538_18, rf_538_19, rf_538_22, rf_538_23, rf_538_25, rf_538_27, rf_538_28, rf_538_30, rf_538_31, rf_538_32, rf_538_33, rf_538_34, rf_538_35, rf_538_36, ob_0, ob_1, ob_3, ob_9, ob_10, ob_17, ob_538, ar_2, ar_4, ar_5, ar_6, ar_7, ar_8, ar_11, ar_12, ar_13, ar_14, ar_15, ar_16, ar_116, ar_117, ar_539, ar_540, ar_541, ar_542, ar_543, ar_544, ar_545, ar_546, ar_547, ar_548, ar_549, ar_550, ar_551, ar_552, ar_553, ar_554, ar_555, ar_556, ar_557, ar_558, ex_eq, ex_ite, pm_bk_r, pm_bk_t, ol_nil, ol_one, true_and, and_true, false_and, and_false, reduceIte, Nat.reduceEqDiff, up_at, Nat.add_left_cancel_iff, q15, q16, hsr]
        rw [b3']
        simp (decide := true) only [q62_89, q62_90, q62_92, q62_93, q62_94, q62_95, ex_eq, ex_ite, pm_bk_r, pm_bk_t, ol_nil, ol_one, true_and, and_true, false_and, and_false, reduceIte, Nat.reduceEqDiff, up_at, Nat.add_left_cancel_iff, em]
        rw [e3]
        simp (decide := true) only [q62_161, q62_162, q62_164, q62_165, ex_eq, ex_ite, pm_bk_r, pm_bk_t, ol_nil, ol_one, true_and, and_true, false_and, and_false, reduceIte, Nat.reduceEqDiff, up_at, Nat.add_left_cancel_iff]
        rw [f3']
        simp (decide := true) only [q62_215, q62_216]
        rw [l3']
        simp (decide := true) only [q62_243, q62_244, q62_245, q62_248, q62_249, q62_250, q62_253, q62_254, q62_255, q62_258, q62_260, W_1, W_I, W_mk, W_tk, pm_rv, rf_0_0, rf_0_1, rf_0_2, rf_0_3, rf_0_4, rf_0_7, rf_0_8, rf_1_0, rf_1_2, rf_3_0, rf_3_1, rf_3_6, rf_3_7, rf_3_8, rf_9_0, rf_9_1, rf_10_0, rf_10_1, rf_10_6, rf_10_7, rf_10_8, rf_17_0, rf_17_1, rf_538_2, rf_538_6, rf_538_7, rf_538_9, rf_538_11, rf_538_12, rf_538_18, rf_538_19, rf_538_22, rf_538_23, rf_538_25, rf_538_27, rf_538_28, rf_538_30, rf_538_31, rf_538_32, rf_538_33, rf_538_34, rf_538_35, rf_538_36, ob_0, ob_1, ob_3, ob_9, ob_10, ob_17, ob_538, ar_2, ar_4, ar_5, ar_6, ar_7, ar_8, ar_11, ar_12, ar_13, ar_14, ar_15, ar_16, ar_116, ar_117, ar_539, ar_540, ar_541, ar_542, ar_543, ar_544, ar_545, ar_546, ar_547, ar_548, ar_549, ar_550, ar_551, ar_552, ar_553, ar_554, ar_555, ar_556, ar_557, ar_558, ex_eq, ex_ite, pm_bk_r, pm_bk_t, ol_nil, ol_one, true_and, and_true, false_and, and_false, reduceIte, Nat.reduceEqDiff, up_at, Nat.add_left_cancel_iff, m_val]
        rw [hJ6]
end DEC
