/-! DEAL: the class's call -/
def o_deal (S : AS) (seed n : Int32) : AS × (Int32 ⊕ Nat) := match S.2.1 with
  | none => (S, .inr 1)
  | some G => if n < 0 then (S, .inr 0) else ((S.1, some G, some (a_deal (g_n G) seed n.toNatClampNeg), [], -1), .inl (nI (g_n G - min (2 * n.toNatClampNeg) (g_n G))))
section DEB
variable {d k : Nat} {o : Int64}
/-- a card laid -/
theorem lay_step {P : Pos} {I : Nat → Nat → Int32} {c p : Nat} (h : TR 108 P I) (hc : c < 24) (hp : p < 6) (hno : ∀ r, r < 6 → c ∉ P.1 r) : TR 108 (a_go P c p) (layI 108 c p I) ∧ (∀ x, x < 108 ∨ 114 < x → layI 108 c p I x = I x) := by
  refine ⟨TRx.lay (h.x (c := c)) hc hp hno, fun x hx => ?_⟩
  unfold layI
  rw [up_row (by omega), up_row (by omega), up_row (by omega), up_row (by omega)]
theorem c6_a {N nn : Nat} {f : Nat → Nat} (hf : PM N f) (hN : N ≤ 24) (hn : nn < 2147483648) {y1 : Option Value} : ∀ t r (I : Nat → Nat → Int32) (y5 : Option Value), N ≤ 2 * r + t → r ≤ nn → r ≤ 24 → TR 108 (a_d1 f N (min (2 * r) N)) I → (∀ j, j < N → I 116 j = nI (f j)) →
    ∃ J z4 z5, TR 108 (a_d1 f N (min (2 * nn) N)) J ∧ (∀ x, x < 108 ∨ 114 < x → J x = I x) ∧ ∀ q, (pm_R (d + 1) 6 64 [some (.ref 0), y1, some (.int (nI nn)), some (.int (nI (N - min (2 * r) N))), some (.int (nI r)), y5] [] (Wm I k o) q ↔ pm_R (d + 1) 6 117 [some (.ref 0), y1, some (.int (nI nn)), some (.int (nI (N - min (2 * nn) N))), z4, z5] [] (Wm J k o) q) := by
  intro t
  induction t using Nat.strongRecOn with
  | ind t ih =>
    intro r I y5 ht hr hr24 hT hd
    have hlt : (nI r < nI nn) ↔ r < nn := sm_lt (by omega) hn
    have hpos : (0 < nI (N - min (2 * r) N)) ↔ 0 < N - min (2 * r) N := sm_lt (a := 0) (by omega) (by omega)
    by_cases c1 : r < nn
    · by_cases c2 : 2 * r < N
      · have hm : min (2 * r) N = 2 * r := Nat.min_eq_left (by omega)
        rw [hm] at hT hpos ⊢
        have hk1 : a_d1 f N (2 * r + 1) = a_go (a_d1 f N (2 * r)) (f (N - 1 - 2 * r)) 0 := by
          show a_go (a_d1 f N (2 * r)) (f (N - 1 - 2 * r)) (2 * r % 2) = _
          rw [Nat.mul_mod_right]
        have hc : f (N - 1 - 2 * r) < 24 := by have := hf.1 (N - 1 - 2 * r) (by omega); omega
        have hs := lay_step (p := 0) hT hc (by omega) (d1_new hf hN c2)
        rw [← hk1] at hs
        obtain ⟨I1, hI1⟩ : ∃ I1, I1 = layI 108 (f (N - 1 - 2 * r)) 0 I := ⟨_, rfl⟩
        rw [← hI1] at hs
        have hd1 : ∀ j, j < N → I1 116 j = nI (f j) := fun j hj => by rw [hs.2 116 (by omega)]; exact hd j hj
        have em : nI (N - 2 * r) + (-1) = nI (N - 1 - 2 * r) := by
          rw [← Int32.sub_eq_add_neg, show (1 : Int32) = nI 1 from rfl, sm_sub (by omega)]
          congr 1
          omega
        have hdk := hd (N - 1 - 2 * r) (by omega)
        have h111 : ∀ q, (pm_C (d + 1) 111 [.ref 108, .int (nI (f (N - 1 - 2 * r))), .int 0] (Wm I k o) q ↔ q = (.inl none, Wm I1 k o)) := fun q => by rw [hI1]; exact c111 (p := 0) tb_108 hc (by omega)
        have hopen : ∀ q, (pm_R (d + 1) 6 64 [some (.ref 0), y1, some (.int (nI nn)), some (.int (nI (N - 2 * r))), some (.int (nI r)), y5] [] (Wm I k o) q ↔ pm_R (d + 1) 6 77 [some (.ref 0), y1, some (.int (nI nn)), some (.int (nI (N - 1 - 2 * r))), some (.int (nI r)), some (.int 1)] [] (Wm I1 k o) q) := by
          intro q
          rw [q6_64]
          simp (decide := true) only [q6_66, q6_67, q6_70, q6_71, q6_74, q6_75, W_1, W_I, W_mk, W_tk, pm_rv, rf_0_0, rf_0_1, rf_0_2, rf_0_3, rf_0_4, rf_0_7, rf_0_8, rf_1_0, rf_1_2, rf_3_0, rf_3_1, rf_3_6, rf_3_7, rf_3_8, rf_9_0, rf_9_1, rf_10_0, rf_10_1, rf_10_6, rf_10_7, rf_10_8, rf_17_0, rf_17_1, rf_538_2, rf_538_6, rf_538_7, rf_538_9, rf_538_11, rf_538_12, rf_538_18, rf_538_19, rf_538_22, rf_538_23, rf_538_25, rf_538_27, rf_538_28, rf_538_30, rf_538_31, rf_538_32, rf_538_33, rf_538_34, rf_538_35, rf_538_36, ob_0, ob_1, ob_3, ob_9, ob_10, ob_17, ob_538, ar_2, ar_4, ar_5, ar_6, ar_7, ar_8, ar_11, ar_12, ar_13, ar_14, ar_15, ar_16, ar_116, ar_117, ar_539, ar_540, ar_541, ar_542, ar_543, ar_544, ar_545, ar_546, ar_547, ar_548, ar_549, ar_550, ar_551, ar_552, ar_553, ar_554, ar_555, ar_556, ar_557, ar_558, ex_eq, ex_ite, pm_bk_r, pm_bk_t, ol_nil, ol_one, true_and, and_true, false_and, and_false, reduceIte, Nat.reduceEqDiff, up_at, Nat.add_left_cancel_iff, hlt, c1, hpos, show (0 < N - 2 * r) ↔ True from iff_true_intro (by omega)]
          rw [q6_77]
          simp (decide := true) only [q6_79, q6_80, q6_83, q6_84, q6_87, q6_90, q6_91, q6_94, q6_95, q6_98, q6_99, q6_100, q6_102, q6_105, q6_108, W_1, W_I, W_mk, W_tk, pm_rv, rf_0_0, rf_0_1, rf_0_2, rf_0_3, rf_0_4, rf_0_7, rf_0_8, rf_1_0, rf_1_2, rf_3_0, rf_3_1, rf_3_6, rf_3_7, rf_3_8, rf_9_0, rf_9_1, rf_10_0, rf_10_1, rf_10_6, rf_10_7, rf_10_8, rf_17_0, rf_17_1, rf_538_2, rf_538_6, rf_538_7, rf_538_9, rf_538_11, rf_538_12, rf_538_18, rf_538_19, rf_538_22, rf_538_23, rf_538_25, rf_538_27, rf_538_28, rf_538_30, rf_538_31, rf_538_32, rf_538_33, rf_538_34, rf_538_35, rf_538_36, ob_0, ob_1, ob_3, ob_9, ob_10, ob_17, ob_538, ar_2, ar_4, ar_5, ar_6, ar_7, ar_8, ar_11, ar_12, ar_13, ar_14, ar_15, ar_16, ar_116, ar_117, ar_539, ar_540, ar_541, ar_542, ar_543, ar_544, ar_545, ar_546, ar_547, ar_548, ar_549, ar_550, ar_551, ar_552, ar_553, ar_554, ar_555, ar_556, ar_557, ar_558, ex_eq, ex_ite, pm_bk_r, pm_bk_t, ol_nil, ol_one, true_and, and_true, false_and, and_false, reduceIte, Nat.reduceEqDiff, up_at, Nat.add_left_cancel_iff, hpos, show (0 < N - 2 * r) ↔ True from iff_true_intro (by omega), em, sm_in (show N - 1 - 2 * r < 2147483648 by omega), show N - 1 - 2 * r < 24 by omega, sm_cl (show N - 1 - 2 * r < 2147483648 by omega), hdk, ob_t tb_108, h111]
          exact Iff.rfl
        by_cases c3 : 2 * r + 1 < N
        · have hk2 : a_d1 f N (2 * r + 2) = a_go (a_d1 f N (2 * r + 1)) (f (N - 1 - (2 * r + 1))) 1 := by
            show a_go (a_d1 f N (2 * r + 1)) (f (N - 1 - (2 * r + 1))) ((2 * r + 1) % 2) = _
            rw [show (2 * r + 1) % 2 = 1 by omega]
          have hc2 : f (N - 1 - (2 * r + 1)) < 24 := by have := hf.1 (N - 1 - (2 * r + 1)) (by omega); omega
          have hs2 := lay_step (p := 1) hs.1 hc2 (by omega) (d1_new hf hN c3)
          rw [← hk2] at hs2
          obtain ⟨I2, hI2⟩ : ∃ I2, I2 = layI 108 (f (N - 1 - (2 * r + 1))) 1 I1 := ⟨_, rfl⟩
          rw [← hI2] at hs2
          have hd2 : ∀ j, j < N → I2 116 j = nI (f j) := fun j hj => by rw [hs2.2 116 (by omega)]; exact hd1 j hj
          have hm2 : min (2 * (r + 1)) N = 2 * r + 2 := by rw [Nat.min_eq_left (by omega)]; omega
          obtain ⟨J, z4, z5, g1, g2, g3⟩ := ih (t - 2) (by omega) (r + 1) I2 (some (.int 2)) (by omega) (by omega) (by omega) (by rw [hm2]; exact hs2.1) hd2
          refine ⟨J, z4, z5, g1, fun x hx => by rw [g2 x hx, hs2.2 x hx, hs.2 x hx], fun q => ?_⟩
          have em2 : nI (N - 1 - 2 * r) + (-1) = nI (N - 1 - (2 * r + 1)) := by
            rw [← Int32.sub_eq_add_neg, show (1 : Int32) = nI 1 from rfl, sm_sub (by omega)]
            congr 1
          have hdk2 := hd1 (N - 1 - (2 * r + 1)) (by omega)
          have h111' : ∀ q, (pm_C (d + 1) 111 [.ref 108, .int (nI (f (N - 1 - (2 * r + 1)))), .int 1] (Wm I1 k o) q ↔ q = (.inl none, Wm I2 k o)) := fun q => by rw [hI2]; exact c111 (p := 1) tb_108 hc2 (by omega)
          have hpos2 : (0 < nI (N - 1 - 2 * r)) ↔ True := iff_true_intro (by rw [show (0 : Int32) = nI 0 from rfl, sm_lt (by omega) (by omega)]; omega)
          have g3' := g3 q
          rw [hm2, show N - (2 * r + 2) = N - 1 - (2 * r + 1) by omega] at g3'
          rw [hopen, q6_77]
          simp (decide := true) only [q6_79, q6_80, q6_83, q6_84, q6_87, q6_90, q6_91, q6_94, q6_95, q6_98, q6_99, q6_100, q6_102, q6_105, q6_108, W_1, W_I, W_mk, W_tk, pm_rv, rf_0_0, rf_0_1, rf_0_2, rf_0_3, rf_0_4, rf_0_7, rf_0_8, rf_1_0, rf_1_2, rf_3_0, rf_3_1, rf_3_6, rf_3_7, rf_3_8, rf_9_0, rf_9_1, rf_10_0, rf_10_1, rf_10_6, rf_10_7, rf_10_8, rf_17_0, rf_17_1, rf_538_2, rf_538_6, rf_538_7, rf_538_9, rf_538_11, rf_538_12, rf_538_18, rf_538_19, rf_538_22, rf_538_23, rf_538_25, rf_538_27, rf_538_28, rf_538_30, rf_538_31, rf_538_32, rf_538_33, rf_538_34, rf_538_35, rf_538_36, ob_0, ob_1, ob_3, ob_9, ob_10, ob_17, ob_538, ar_2, ar_4, ar_5, ar_6, ar_7, ar_8, ar_11, ar_12, ar_13, ar_14, ar_15, ar_16, ar_116, ar_117, ar_539, ar_540, ar_541, ar_542, ar_543, ar_544, ar_545, ar_546, ar_547, ar_548, ar_549, ar_550, ar_551, ar_552, ar_553, ar_554, ar_555, ar_556, ar_557, ar_558, ex_eq, ex_ite, pm_bk_r, pm_bk_t, ol_nil, ol_one, true_and, and_true, false_and, and_false, reduceIte, Nat.reduceEqDiff, up_at, Nat.add_left_cancel_iff, hpos2, em2, sm_in (show N - 1 - (2 * r + 1) < 2147483648 by omega), show N - 1 - (2 * r + 1) < 24 by omega, sm_cl (show N - 1 - (2 * r + 1) < 2147483648 by omega), hdk2, ob_t tb_108, h111']
          rw [q6_77]
          simp (decide := true) only [q6_79, q6_80, q6_111, q6_114, ex_eq, ex_ite, pm_bk_r, pm_bk_t, ol_nil, ol_one, true_and, and_true, false_and, and_false, reduceIte, Nat.reduceEqDiff, up_at, Nat.add_left_cancel_iff, sm_s]
          exact g3'
        · have hN1 : N = 2 * r + 1 := by omega
          have hm2 : min (2 * (r + 1)) N = 2 * r + 1 := by rw [Nat.min_eq_right (by omega)]; omega
          obtain ⟨J, z4, z5, g1, g2, g3⟩ := ih (t - 1) (by omega) (r + 1) I1 (some (.int 1)) (by omega) (by omega) (by omega) (by rw [hm2]; exact hs.1) hd1
          refine ⟨J, z4, z5, g1, fun x hx => by rw [g2 x hx, hs.2 x hx], fun q => ?_⟩
          have hz : N - 1 - 2 * r = 0 := by omega
          have g3' := g3 q
          rw [hm2, show N - (2 * r + 1) = 0 by omega] at g3'
          rw [hopen, hz, q6_77]
          simp (decide := true) only [q6_79, q6_80, q6_83, q6_84, q6_111, q6_114, ex_eq, ex_ite, pm_bk_r, pm_bk_t, ol_nil, ol_one, true_and, and_true, false_and, and_false, reduceIte, Nat.reduceEqDiff, up_at, Nat.add_left_cancel_iff, sm_s, g3']
      · -- no card left
        have hm : min (2 * r) N = N := Nat.min_eq_right (by omega)
        have hm2 : min (2 * nn) N = N := Nat.min_eq_right (by omega)
        rw [hm] at hT ⊢
        rw [hm2]
        refine ⟨I, some (.int (nI r)), y5, hT, fun _ _ => rfl, fun q => ?_⟩
        rw [q6_64, Nat.sub_self]
        simp (decide := true) only [q6_66, q6_67, q6_70, q6_71, ex_eq, ex_ite, pm_bk_r, pm_bk_t, ol_nil, ol_one, true_and, and_true, false_and, and_false, reduceIte, Nat.reduceEqDiff, up_at, Nat.add_left_cancel_iff, hlt, c1]
    · have e : r = nn := by omega
      subst e
      refine ⟨I, some (.int (nI r)), y5, hT, fun _ _ => rfl, fun q => ?_⟩
      rw [q6_64]
      simp (decide := true) only [q6_66, q6_67, ex_eq, ex_ite, pm_bk_r, pm_bk_t, ol_nil, ol_one, true_and, and_true, false_and, and_false, reduceIte, Nat.reduceEqDiff, up_at, Nat.add_left_cancel_iff, hlt, c1]
theorem c6_b {N m : Nat} {f : Nat → Nat} (hf : PM N f) (hN : N ≤ 24) (hm : m ≤ N) {y1 y2 y5 : Option Value} : ∀ t i (I : Nat → Nat → Int32), i + t = N - m → TR 108 (a_d2 f (a_d1 f N m) i) I → (∀ j, j < N → I 116 j = nI (f j)) →
    ∃ J z4, TR 108 (a_d2 f (a_d1 f N m) (N - m)) J ∧ (∀ x, x < 108 ∨ 114 < x → J x = I x) ∧ ∀ q, (pm_R (d + 1) 6 120 [some (.ref 0), y1, y2, some (.int (nI (N - m))), some (.int (nI i)), y5] [] (Wm I k o) q ↔ pm_R (d + 1) 6 147 [some (.ref 0), y1, y2, some (.int (nI (N - m))), z4, y5] [] (Wm J k o) q) := by
  intro t
  induction t with
  | zero =>
    intro i I hi hT hd
    obtain rfl : i = N - m := by omega
    refine ⟨I, some (.int (nI (N - m))), hT, fun _ _ => rfl, fun q => ?_⟩
    rw [q6_120]
    simp only [q6_122, q6_123, ex_eq, ex_ite, pm_bk_r, pm_bk_t, ol_nil, ol_one, true_and, and_true, false_and, and_false, reduceIte, Nat.reduceEqDiff, up_at, Nat.add_left_cancel_iff, show (nI (N - m) < nI (N - m)) ↔ False from iff_false_intro (by rw [sm_lt (by omega) (by omega)]; omega)]
  | succ t ih =>
    intro i I hi hT hd
    have hc : f i < 24 := by have := hf.1 i (by omega); omega
    have hs := lay_step (p := 2) hT hc (by omega) (d2_new hf hN hm (by omega))
    obtain ⟨I1, hI1⟩ : ∃ I1, I1 = layI 108 (f i) 2 I := ⟨_, rfl⟩
    rw [← hI1] at hs
    obtain ⟨J, z4, g1, g2, g3⟩ := ih (i + 1) I1 (by omega) hs.1 (fun j hj => by rw [hs.2 116 (by omega)]; exact hd j hj)
    refine ⟨J, z4, g1, fun x hx => by rw [g2 x hx, hs.2 x hx], fun q => ?_⟩
    have h111 : ∀ q, (pm_C (d + 1) 111 [.ref 108, .int (nI (f i)), .int 2] (Wm I k o) q ↔ q = (.inl none, Wm I1 k o)) := fun q => by rw [hI1]; exact c111 (p := 2) tb_108 hc (by omega)
    rw [q6_120]
    simp (decide := true) only [q6_122, q6_123, q6_126, q6_127, q6_130, q6_131, q6_134, q6_136, q6_137, q6_138, q6_141, q6_144, W_1, W_I, W_mk, W_tk, pm_rv, rf_0_0, rf_0_1, rf_0_2, rf_0_3, rf_0_4, rf_0_7, rf_0_8, rf_1_0, rf_1_2, rf_3_0, rf_3_1, rf_3_6, rf_3_7, rf_3_8, rf_9_0, rf_9_1, rf_10_0, rf_10_1, rf_10_6, rf_10_7, rf_10_8, rf_17_0, rf_17_1, rf_538_2, rf_538_6, rf_538_7, rf_538_9, rf_538_11, rf_538_12, rf_538_18, rf_538_19, rf_538_22, rf_538_23, rf_538_25, rf_538_27, rf_538_28, rf_538_30, rf_538_31, rf_538_32, rf_538_33, rf_538_34, rf_538_35, rf_538_36, ob_0, ob_1, ob_3, ob_9, ob_10, ob_17, ob_538, ar_2, ar_4, ar_5, ar_6, ar_7, ar_8, ar_11, ar_12, ar_13, ar_14, ar_15, ar_16, ar_116, ar_117, ar_539, ar_540, ar_541, ar_542, ar_543, ar_544, ar_545, ar_546, ar_547, ar_548, ar_549, ar_550, ar_551, ar_552, ar_553, ar_554, ar_555, ar_556, ar_557, ar_558, ex_eq, ex_ite, pm_bk_r, pm_bk_t, ol_nil, ol_one, true_and, and_true, false_and, and_false, reduceIte, Nat.reduceEqDiff, up_at, Nat.add_left_cancel_iff, show (nI i < nI (N - m)) ↔ True from iff_true_intro (by rw [sm_lt (by omega) (by omega)]; omega), sm_in (show i < 2147483648 by omega), show i < 24 by omega, sm_cl (show i < 2147483648 by omega), hd i (by omega), ob_t tb_108, h111, sm_s, g3]
theorem k6 {S : AS} {I : Nat → Nat → Int32} (hA : AOK S) (h : CI S I) {seed n : Int32} : COK (o_deal S seed n).1 (o_deal S seed n).2 I k o (fun M q => pm_C (d + 3) 6 [.ref 0, .int seed, .int n] M q) := by
  unfold o_deal
  have h2 := h.2.1
  cases hG : S.2.1 with
  | none =>
    rw [hG] at h2
    have h2 : I 10 2 = 0 ∧ I 10 3 = 0 ∧ I 10 5 = 0 := h2
    refine ⟨I, h, fun _ _ => rfl, fun q => ?_⟩
    show pm_C (d + 3) 6 _ _ q ↔ _
    rw [n6]
    simp (decide := true) only [q6_0, q6_1, q6_4, q6_7, q6_10, q6_13, W_1, W_I, W_mk, W_tk, pm_rv, rf_0_0, rf_0_1, rf_0_2, rf_0_3, rf_0_4, rf_0_7, rf_0_8, rf_1_0, rf_1_2, rf_3_0, rf_3_1, rf_3_6, rf_3_7, rf_3_8, rf_9_0, rf_9_1, rf_10_0, rf_10_1, rf_10_6, rf_10_7, rf_10_8, rf_17_0, rf_17_1, rf_538_2, rf_538_6, rf_538_7, rf_538_9, rf_538_11, rf_538_12, rf_538_18, rf_538_19, rf_538_22, rf_538_23, rf_538_25, rf_538_27, rf_538_28, rf_538_30, rf_538_31, rf_538_32, rf_538_33, rf_538_34, rf_538_35, rf_538_36, ob_0, ob_1, ob_3, ob_9, ob_10, ob_17, ob_538, ar_2, ar_4, ar_5, ar_6, ar_7, ar_8, ar_11, ar_12, ar_13, ar_14, ar_15, ar_16, ar_116, ar_117, ar_539, ar_540, ar_541, ar_542, ar_543, ar_544, ar_545, ar_546, ar_547, ar_548, ar_549, ar_550, ar_551, ar_552, ar_553, ar_554, ar_555, ar_556, ar_557, ar_558, ex_eq, ex_ite, pm_bk_r, pm_bk_t, ol_nil, ol_one, true_and, and_true, false_and, and_false, reduceIte, Nat.reduceEqDiff, up_at, Nat.add_left_cancel_iff, h2.1, W_tk, rfin]
  | some G =>
    rw [hG] at h2
    have h2 : GR G I := h2
    have hok := hA.2.1 G hG
    have hg := g_n24 hok.1
    have hl := hok.1.1
    have e0 : (nI G.1.length = 0) ↔ False := iff_false_intro (by rw [nI_eq0 (by omega)]; omega)
    simp only []
    by_cases n0 : n < 0
    · rw [if_pos n0]
      refine ⟨I, h, fun _ _ => rfl, fun q => ?_⟩
      show pm_C (d + 3) 6 _ _ q ↔ _
      rw [n6]
      simp (decide := true) only [q6_0, q6_1, q6_4, q6_7, q6_10, q6_13, q6_23, q6_24, q6_27, W_1, W_I, W_mk, W_tk, pm_rv, rf_0_0, rf_0_1, rf_0_2, rf_0_3, rf_0_4, rf_0_7, rf_0_8, rf_1_0, rf_1_2, rf_3_0, rf_3_1, rf_3_6, rf_3_7, rf_3_8, rf_9_0, rf_9_1, rf_10_0, rf_10_1, rf_10_6, rf_10_7, rf_10_8, rf_17_0, rf_17_1, rf_538_2, rf_538_6, rf_538_7, rf_538_9, rf_538_11, rf_538_12, rf_538_18, rf_538_19, rf_538_22, rf_538_23, rf_538_25, rf_538_27, rf_538_28, rf_538_30, rf_538_31, rf_538_32, rf_538_33, rf_538_34, rf_538_35, rf_538_36, ob_0, ob_1, ob_3, ob_9, ob_10, ob_17, ob_538, ar_2, ar_4, ar_5, ar_6, ar_7, ar_8, ar_11, ar_12, ar_13, ar_14, ar_15, ar_16, ar_116, ar_117, ar_539, ar_540, ar_541, ar_542, ar_543, ar_544, ar_545, ar_546, ar_547, ar_548, ar_549, ar_550, ar_551, ar_552, ar_553, ar_554, ar_555, ar_556, ar_557, ar_558, ex_eq, ex_ite, pm_bk_r, pm_bk_t, ol_nil, ol_one, true_and, and_true, false_and, and_false, reduceIte, Nat.reduceEqDiff, up_at, Nat.add_left_cancel_iff, h2.1.2.1, e0, n0, W_tk, rfin]
    · rw [if_neg n0]
      have hn := nn_nI n0
      obtain ⟨nn, hnn⟩ : ∃ nn, nn = n.toNatClampNeg := ⟨_, rfl⟩
      rw [← hnn] at hn ⊢
      obtain ⟨N, hNN⟩ : ∃ N, N = g_n G := ⟨_, rfl⟩
      have h3 : I 10 3 = nI N := by rw [hNN]; exact h2.2.1
      rw [← hNN] at hg ⊢
      obtain ⟨f, hff⟩ : ∃ f, f = a_sh (N - 1) seed (fun a => a) := ⟨_, rfl⟩
      have hf : PM N f := by rw [hff]; exact sh_ok _ _ _ (by omega) id_PM
      obtain ⟨J1, a1, a2, a3⟩ := c7 (d := d + 1) (k := k) (o := o) (seed := seed) (I := I) hg.1 hg.2
      rw [← hff] at a1
      obtain ⟨J2, hJ2⟩ : ∃ J2, J2 = clrI 108 J1 := ⟨_, rfl⟩
      have T2 : TR 108 a_nil J2 := by rw [hJ2]; exact TR.clear
      have s2 : ∀ x, x < 108 ∨ 114 < x → J2 x = J1 x := fun x hx => by rw [hJ2]; exact clr_fr hx
      obtain ⟨J3, z4, z5, b1, b2, b3⟩ := c6_a (d := d + 1) (k := k) (o := o) (y1 := some (.int seed)) hf hg.2 hn.2 N 0 J2 none (by omega) (by omega) (by omega) (by rw [Nat.mul_zero, Nat.zero_min]; exact T2) (fun j hj => by rw [s2 116 (by omega)]; exact a1 j hj)
      have hm : min (2 * nn) N ≤ N := Nat.min_le_right _ _
      obtain ⟨J4, y4, e1, e2, e3⟩ := c6_b (d := d + 1) (k := k) (o := o) (y1 := some (.int seed)) (y2 := some (.int (nI nn))) (y5 := z5) hf hg.2 hm (N - min (2 * nn) N) 0 J3 (by omega) b1 (fun j hj => by rw [b2 116 (by omega), s2 116 (by omega)]; exact a1 j hj)
      obtain ⟨J5, hJ5⟩ : ∃ J5, J5 = pm_up (pm_up (pm_up J4 0 6 1) 0 5 0) 0 9 (-1) := ⟨_, rfl⟩
      have s5 : ∀ x j, ¬ (x = 0 ∧ (j = 5 ∨ j = 6 ∨ j = 9)) → J5 x j = J4 x j := fun x j a => by rw [hJ5, up_ne (by omega), up_ne (by omega), up_ne (by omega)]
      have st : ∀ x j, ¬ (x = 0 ∧ (j = 5 ∨ j = 6 ∨ j = 9)) → (x < 108 ∨ 114 < x) → x ≠ 116 → J5 x j = I x j := fun x j a b c => by rw [s5 x j a, e2 x b, b2 x b, s2 x b, a2 x c]
      refine ⟨J5, ⟨h.1.eq (st _ _ (by omega) (by omega) (by omega)) (by funext j; exact st _ _ (by omega) (by omega) (by omega)), ?_, ?_, ?_, fun P' hP' => ?_, fun h' hh' => (by simp at hh'), ?_⟩, ?_, fun q => ?_⟩
      · exact GR.congr h2 (fun x a b => by funext j; exact st _ _ (by omega) (by omega) (by omega))
      · rw [hJ5, up_ne (by omega), up_ne (by omega), up_eq]; rfl
      · rw [hJ5, up_ne (by omega), up_eq]; rfl
      · injection hP' with hP'
        rw [← hP']
        have : TR 108 (a_deal N seed nn) J4 := by unfold a_deal; rw [← hff]; exact e1
        exact this.eq (fun x a b => by funext j; exact s5 _ _ (by omega))
      · rw [hJ5, up_eq]
      · intro x hx
        funext j
        exact st _ _ (by omega) (by omega) (by omega)
      · show pm_C (d + 3) 6 _ _ q ↔ _
        have b3' := b3 q
        rw [Nat.mul_zero, Nat.zero_min, Nat.sub_zero, ← hn.1, show nI 0 = (0 : Int32) from rfl] at b3'
        have e3' := e3 q
        rw [← hn.1, show nI 0 = (0 : Int32) from rfl] at e3'
        have h109 : ∀ q, (pm_C (d + 2) 109 [.ref 108] (Wm J1 k o) q ↔ q = (.inl none, Wm J2 k o)) := fun q => by rw [hJ2]; exact c109 tb_108
        rw [n6]
        simp (decide := true) only [q6_0, q6_1, q6_4, q6_7, q6_10, q6_13, q6_23, q6_24, q6_27, q6_37, q6_38, q6_41, q6_44, q6_47, q6_48, q6_49, q6_50, q6_51, q6_54, q6_55, q6_58, q6_61, q6_62, W_1, W_I, W_mk, W_tk, pm_rv, rf_0_0, rf_0_1, rf_0_2, rf_0_3, rf_0_4, rf_0_7, rf_0_8, rf_1_0, rf_1_2, rf_3_0, rf_3_1, rf_3_6, rf_3_7, rf_3_8, rf_9_0, rf_9_1, rf_10_0, rf_10_1, rf_10_6, rf_10_7, rf_10_8, rf_17_0, rf_17_1, rf_538_2, rf_538_6, rf_538_7, rf_538_9, rf_538_11, rf_538_12, rf_538_18, rf_538_19, rf_538_22, rf_538_23, rf_538_25, rf_538_27, rf_538_28, rf_538_30, rf_538_31, rf_538_32, rf_538_33, rf_538_34, rf_538_35, rf_538_36, ob_0, ob_1, ob_3, ob_9, ob_10, ob_17, ob_538, ar_2, ar_4, ar_5, ar_6, ar_7, ar_8, ar_11, ar_12, ar_13, ar_14, ar_15, ar_16, ar_116, ar_117, ar_539, ar_540, ar_541, ar_542, ar_543, ar_544, ar_545, ar_546, ar_547, ar_548, ar_549, ar_550, ar_551, ar_552, ar_553, ar_554, ar_555, ar_556, ar_557, ar_558, ex_eq, ex_ite, pm_bk_r, pm_bk_t, ol_nil, ol_one, true_and, and_true, false_and, and_false, reduceIte, Nat.reduceEqDiff, up_at, Nat.add_left_cancel_iff, h2.1.2.1, e0, n0, h3, a3, ob_t tb_108, h109]
        rw [b3']
        simp (decide := true) only [q6_117, q6_118]
        rw [e3']
        simp (decide := true) only [q6_147, q6_148, q6_149, q6_152, q6_153, q6_154, q6_157, q6_158, q6_159, q6_162, q6_163, W_1, W_I, W_mk, W_tk, pm_rv, rf_0_0, rf_0_1, rf_0_2, rf_0_3, rf_0_4, rf_0_7, rf_0_8, rf_1_0, rf_1_2, rf_3_0, rf_3_1, rf_3_6, rf_3_7, rf_3_8, rf_9_0, rf_9_1, rf_10_0, rf_10_1, rf_10_6, rf_10_7, rf_10_8, rf_17_0, rf_17_1, rf_538_2, rf_538_6, rf_538_7, rf_538_9, rf_538_11, rf_538_12, rf_538_18, rf_538_19, rf_538_22, rf_538_23, rf_538_25, rf_538_27, rf_538_28, rf_538_30, rf_538_31, rf_538_32, rf_538_33, rf_538_34, rf_538_35, rf_538_36, ob_0, ob_1, ob_3, ob_9, ob_10, ob_17, ob_538, ar_2, ar_4, ar_5, ar_6, ar_7, ar_8, ar_11, ar_12, ar_13, ar_14, ar_15, ar_16, ar_116, ar_117, ar_539, ar_540, ar_541, ar_542, ar_543, ar_544, ar_545, ar_546, ar_547, ar_548, ar_549, ar_550, ar_551, ar_552, ar_553, ar_554, ar_555, ar_556, ar_557, ar_558, ex_eq, ex_ite, pm_bk_r, pm_bk_t, ol_nil, ol_one, true_and, and_true, false_and, and_false, reduceIte, Nat.reduceEqDiff, up_at, Nat.add_left_cancel_iff, rfin]
        rw [hJ5]
end DEB
