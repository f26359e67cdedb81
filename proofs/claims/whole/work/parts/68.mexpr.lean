/-! THE REFERENCE: number, plain, operand, expr -/
section MXP
variable {d k : Nat} {o : Int64} {T : List Nat} {wr : Bool} {K : List (Int32 × Int32)} {W : List Nat}
/-- a digit read -/
theorem c35_d (hT : TX T) {p n : Nat} {v : Int32} {I : Nat → Nat → Int32} (h : MT T p wr K W I) (hp : p ≤ T.length) (hd : e_dig (nx T p) = true) {q : pm_Res} :
    pm_R (d + 1) 35 4 [some (.ref 538), some (.int v), some (.int (nI n))] [] (Wm I k o) q ↔ pm_R (d + 1) 35 4 [some (.ref 538), some (.int (if nI n < 3 then 10 * v + nI (nx T p) - 48 else v)), some (.int (nI (n + 1)))] [] (Wm (uA I (p + 1)) k o) q := by
  have h240 := hT.1
  have h126 := nx_126 hT p
  have hb : bI true = 1 := rfl
  rw [q35_4]
  by_cases h3 : nI n < 3
  · simp (decide := true) only [q35_5, q35_8, q35_11, q35_14, q35_15, q35_16, q35_19, q35_21, q35_22, q35_23, q35_24, q35_27, q35_28, q35_30, q35_31, q35_34, q35_35, q35_36, q35_39, q35_40, q35_41, q35_44, q35_45, q35_46, q35_49, W_1, W_I, W_mk, W_tk, pm_rv, rf_0_0, rf_0_1, rf_0_2, rf_0_3, rf_0_4, rf_0_7, rf_0_8, rf_1_0, rf_1_2, rf_3_0, rf_3_1, rf_3_6, rf_3_7, rf_3_8, rf_9_0, rf_9_1, rf_10_0, rf_10_1, rf_10_6, rf_10_7, rf_10_8, rf_17_0, rf_17_1, rf_538_2, rf_538_6, rf_538_7, rf_538_9, rf_538_11, rf_538_12, rf_538_18, rf_538_19, rf_538_22, rf_538_23, rf_538_25, rf_538_27, rf_538_28, rf_538_30, rf_538_31, rf_538_32, rf_538_33, rf_538_34, rf_538_35, rf_538_36, ob_0, ob_1, ob_3, ob_9, ob_10, ob_17, ob_538, ar_2, ar_4, ar_5, ar_6, ar_7, ar_8, ar_11, ar_12, ar_13, ar_14, ar_15, ar_16, ar_116, ar_117, ar_539, ar_540, ar_541, ar_542, ar_543, ar_544, ar_545, ar_546, ar_547, ar_548, ar_549, ar_550, ar_551, ar_552, ar_553, ar_554, ar_555, ar_556, ar_557, ar_558, ex_eq, ex_ite, pm_bk_r, pm_bk_t, ol_nil, ol_one, true_and, and_true, false_and, and_false, reduceIte, Nat.reduceEqDiff, up_at, Nat.add_left_cancel_iff, c26 hT h.1 h.2.1 (show p < 100000 by omega), c34 (show nx T p < 1000 by omega), hd, hb, h3, h.2.1, sm_s]
    exact Iff.rfl
  · simp (decide := true) only [q35_5, q35_8, q35_11, q35_14, q35_15, q35_16, q35_19, q35_21, q35_22, q35_23, q35_24, q35_27, q35_28, q35_30, q35_31, q35_34, q35_35, q35_36, q35_39, q35_40, q35_41, q35_44, q35_45, q35_46, q35_49, W_1, W_I, W_mk, W_tk, pm_rv, rf_0_0, rf_0_1, rf_0_2, rf_0_3, rf_0_4, rf_0_7, rf_0_8, rf_1_0, rf_1_2, rf_3_0, rf_3_1, rf_3_6, rf_3_7, rf_3_8, rf_9_0, rf_9_1, rf_10_0, rf_10_1, rf_10_6, rf_10_7, rf_10_8, rf_17_0, rf_17_1, rf_538_2, rf_538_6, rf_538_7, rf_538_9, rf_538_11, rf_538_12, rf_538_18, rf_538_19, rf_538_22, rf_538_23, rf_538_25, rf_538_27, rf_538_28, rf_538_30, rf_538_31, rf_538_32, rf_538_33, rf_538_34, rf_538_35, rf_538_36, ob_0, ob_1, ob_3, ob_9, ob_10, ob_17, ob_538, ar_2, ar_4, ar_5, ar_6, ar_7, ar_8, ar_11, ar_12, ar_13, ar_14, ar_15, ar_16, ar_116, ar_117, ar_539, ar_540, ar_541, ar_542, ar_543, ar_544, ar_545, ar_546, ar_547, ar_548, ar_549, ar_550, ar_551, ar_552, ar_553, ar_554, ar_555, ar_556, ar_557, ar_558, ex_eq, ex_ite, pm_bk_r, pm_bk_t, ol_nil, ol_one, true_and, and_true, false_and, and_false, reduceIte, Nat.reduceEqDiff, up_at, Nat.add_left_cancel_iff, c26 hT h.1 h.2.1 (show p < 100000 by omega), c34 (show nx T p < 1000 by omega), hd, hb, h3, h.2.1, sm_s]
    exact Iff.rfl
theorem c35_x (hT : TX T) {p : Nat} {v n : Int32} {I : Nat → Nat → Int32} (h : MT T p wr K W I) (hp : p ≤ T.length) (hd : e_dig (nx T p) = false) {q : pm_Res} :
    pm_R (d + 1) 35 4 [some (.ref 538), some (.int v), some (.int n)] [] (Wm I k o) q ↔ pm_R (d + 1) 35 52 [some (.ref 538), some (.int v), some (.int n)] [] (Wm I k o) q := by
  have h240 := hT.1
  have h126 := nx_126 hT p
  have hb : bI false = 0 := rfl
  rw [q35_4]
  simp (decide := true) only [q35_5, q35_8, q35_11, W_1, W_I, W_mk, W_tk, pm_rv, rf_0_0, rf_0_1, rf_0_2, rf_0_3, rf_0_4, rf_0_7, rf_0_8, rf_1_0, rf_1_2, rf_3_0, rf_3_1, rf_3_6, rf_3_7, rf_3_8, rf_9_0, rf_9_1, rf_10_0, rf_10_1, rf_10_6, rf_10_7, rf_10_8, rf_17_0, rf_17_1, rf_538_2, rf_538_6, rf_538_7, rf_538_9, rf_538_11, rf_538_12, rf_538_18, rf_538_19, rf_538_22, rf_538_23, rf_538_25, rf_538_27, rf_538_28, rf_538_30, rf_538_31, rf_538_32, rf_538_33, rf_538_34, rf_538_35, rf_538_36, ob_0, ob_1, ob_3, ob_9, ob_10, ob_17, ob_538, ar_2, ar_4, ar_5, ar_6, ar_7, ar_8, ar_11, ar_12, ar_13, ar_14, ar_15, ar_16, ar_116, ar_117, ar_539, ar_540, ar_541, ar_542, ar_543, ar_544, ar_545, ar_546, ar_547, ar_548, ar_549, ar_550, ar_551, ar_552, ar_553, ar_554, ar_555, ar_556, ar_557, ar_558, ex_eq, ex_ite, pm_bk_r, pm_bk_t, ol_nil, ol_one, true_and, and_true, false_and, and_false, reduceIte, Nat.reduceEqDiff, up_at, Nat.add_left_cancel_iff, c26 hT h.1 h.2.1 (show p < 100000 by omega), c34 (show nx T p < 1000 by omega), hd, hb]
theorem c35_e (hT : TX T) {p n : Nat} {v : Int32} {I : Nat → Nat → Int32} (h : MT T p wr K W I) (hn : n < 100000) (hK : K.length < 500) : ∃ J, MT T p (wr || decide (3 < n)) (K ++ [(0, v)]) W J ∧ FN I J ∧ ∀ q, (pm_R (d + 1) 35 52 [some (.ref 538), some (.int v), some (.int (nI n))] [] (Wm I k o) q ↔ q = (.inl none, Wm J k o)) := by
  have hw := h.w (b := wr || decide (3 < n))
  refine ⟨_, hw.e (x := 0) (y := v), fW.trans fE, fun q => ?_⟩
  have h29 : ∀ q, (pm_C (d + 1) 29 [.ref 538, .int 0, .int v] (Wm (uW I (wr || decide (3 < n))) k o) q ↔ q = (.inl none, Wm (uE (uW I (wr || decide (3 < n))) K.length 0 v) k o)) := fun q => c29 hw hK
  have e3 : (3 < nI n) ↔ 3 < n := sm_lt (a := 3) (by omega) (by omega)
  have h4 := h.2.2.1
  by_cases hn3 : 3 < n
  · have eb : (wr || decide (3 < n)) = true := by simp [hn3]
    rw [eb] at h29 ⊢
    unfold uW at h29 ⊢
    cases wr <;> simp (decide := true) only [q35_52, q35_53, q35_54, q35_57, q35_60, q35_61, q35_62, q35_65, q35_66, q35_69, q35_70, q35_73, q35_74, q35_75, q35_76, q35_79, W_1, W_I, W_mk, W_tk, pm_rv, rf_0_0, rf_0_1, rf_0_2, rf_0_3, rf_0_4, rf_0_7, rf_0_8, rf_1_0, rf_1_2, rf_3_0, rf_3_1, rf_3_6, rf_3_7, rf_3_8, rf_9_0, rf_9_1, rf_10_0, rf_10_1, rf_10_6, rf_10_7, rf_10_8, rf_17_0, rf_17_1, rf_538_2, rf_538_6, rf_538_7, rf_538_9, rf_538_11, rf_538_12, rf_538_18, rf_538_19, rf_538_22, rf_538_23, rf_538_25, rf_538_27, rf_538_28, rf_538_30, rf_538_31, rf_538_32, rf_538_33, rf_538_34, rf_538_35, rf_538_36, ob_0, ob_1, ob_3, ob_9, ob_10, ob_17, ob_538, ar_2, ar_4, ar_5, ar_6, ar_7, ar_8, ar_11, ar_12, ar_13, ar_14, ar_15, ar_16, ar_116, ar_117, ar_539, ar_540, ar_541, ar_542, ar_543, ar_544, ar_545, ar_546, ar_547, ar_548, ar_549, ar_550, ar_551, ar_552, ar_553, ar_554, ar_555, ar_556, ar_557, ar_558, ex_eq, ex_ite, pm_bk_r, pm_bk_t, ol_nil, ol_one, true_and, and_true, false_and, and_false, reduceIte, Nat.reduceEqDiff, up_at, Nat.add_left_cancel_iff, h4, bI, e3, hn3] <;> (simp (decide := true) only [bI, reduceIte] at h29; simp (decide := true) only [h29, ex_eq, ex_ite, pm_bk_r, pm_bk_t, ol_nil, ol_one, true_and, and_true, false_and, and_false, reduceIte, Nat.reduceEqDiff, up_at, Nat.add_left_cancel_iff, q35_79])
  · have eb : (wr || decide (3 < n)) = wr := by simp [hn3]
    rw [eb] at h29 ⊢
    unfold uW at h29 ⊢
    cases wr <;> simp (decide := true) only [q35_52, q35_53, q35_54, q35_57, q35_60, q35_61, q35_62, q35_65, q35_66, q35_69, q35_70, q35_73, q35_74, q35_75, q35_76, q35_79, W_1, W_I, W_mk, W_tk, pm_rv, rf_0_0, rf_0_1, rf_0_2, rf_0_3, rf_0_4, rf_0_7, rf_0_8, rf_1_0, rf_1_2, rf_3_0, rf_3_1, rf_3_6, rf_3_7, rf_3_8, rf_9_0, rf_9_1, rf_10_0, rf_10_1, rf_10_6, rf_10_7, rf_10_8, rf_17_0, rf_17_1, rf_538_2, rf_538_6, rf_538_7, rf_538_9, rf_538_11, rf_538_12, rf_538_18, rf_538_19, rf_538_22, rf_538_23, rf_538_25, rf_538_27, rf_538_28, rf_538_30, rf_538_31, rf_538_32, rf_538_33, rf_538_34, rf_538_35, rf_538_36, ob_0, ob_1, ob_3, ob_9, ob_10, ob_17, ob_538, ar_2, ar_4, ar_5, ar_6, ar_7, ar_8, ar_11, ar_12, ar_13, ar_14, ar_15, ar_16, ar_116, ar_117, ar_539, ar_540, ar_541, ar_542, ar_543, ar_544, ar_545, ar_546, ar_547, ar_548, ar_549, ar_550, ar_551, ar_552, ar_553, ar_554, ar_555, ar_556, ar_557, ar_558, ex_eq, ex_ite, pm_bk_r, pm_bk_t, ol_nil, ol_one, true_and, and_true, false_and, and_false, reduceIte, Nat.reduceEqDiff, up_at, Nat.add_left_cancel_iff, h4, bI, e3, hn3] <;> (simp (decide := true) only [bI, reduceIte] at h29; simp (decide := true) only [h29, ex_eq, ex_ite, pm_bk_r, pm_bk_t, ol_nil, ol_one, true_and, and_true, false_and, and_false, reduceIte, Nat.reduceEqDiff, up_at, Nat.add_left_cancel_iff, q35_79])
/-- more digits than three -/
theorem c35_s (hT : TX T) {v : Int32} : ∀ m p n (I : Nat → Nat → Int32), T.length ≤ m + p → MT T p wr K W I → p ≤ T.length → 3 ≤ n → n ≤ 1000 + p → ∃ p' n' J, MT T p' wr K W J ∧ FN I J ∧ p ≤ p' ∧ p' ≤ T.length ∧ n' = n + (p' - p) ∧ (e_dig (nx T p) = true → p < p') ∧ e_dig (nx T p') = false ∧ ∀ q, (pm_R (d + 1) 35 4 [some (.ref 538), some (.int v), some (.int (nI n))] [] (Wm I k o) q ↔ pm_R (d + 1) 35 52 [some (.ref 538), some (.int v), some (.int (nI n'))] [] (Wm J k o) q) := by
  have h240 := hT.1
  intro m
  induction m with
  | zero =>
    intro p n I hm h hp hn hn2
    have hd : e_dig (nx T p) = false := by rw [nx_ge (by omega)]; rfl
    exact ⟨p, n, I, h, FN.refl, Nat.le_refl _, hp, by omega, fun q => (by rw [hd] at q; cases q), hd, fun q => c35_x hT h hp hd⟩
  | succ m ih =>
    intro p n I hm h hp hn hn2
    cases hd : e_dig (nx T p) with
    | false => exact ⟨p, n, I, h, FN.refl, Nat.le_refl _, hp, by omega, fun q => (by cases q), hd, fun q => c35_x hT h hp hd⟩
    | true =>
      have hd2 := of_decide_eq_true hd
      have hlt := nx_lt (T := T) (p := p) (by omega)
      obtain ⟨p', n', J, a1, a2, a3, a4, a5, a6, a7, a8⟩ := ih (p + 1) (n + 1) (uA I (p + 1)) (by omega) h.a (by omega) (by omega) (by omega)
      refine ⟨p', n', J, a1, fA.trans a2, by omega, a4, by omega, fun _ => by omega, a7, fun q => ?_⟩
      have e3 : ¬ nI n < 3 := by rw [show (3 : Int32) = nI 3 from rfl, sm_lt (by omega) (by omega)]; omega
      rw [c35_d hT h hp hd, if_neg e3, a8]
theorem c35 (hT : TX T) {p : Nat} {I : Nat → Nat → Int32} (h : MT T p wr K W I) (hp : p ≤ T.length) (hK : K.length < 500) {x : Nat × Nat} (hx : e_num T p = some x) :
    (e_dig (nx T x.1) = false → ∃ J, MT T x.1 wr (K ++ [(0, nI x.2)]) W J ∧ FN I J ∧ ∀ q, (pm_C (d + 2) 35 [.ref 538] (Wm I k o) q ↔ q = (.inl none, Wm J k o))) ∧
    (e_dig (nx T x.1) = true → ∃ J p' v, MT T p' true (K ++ [(0, v)]) W J ∧ p < p' ∧ p' ≤ T.length ∧ FN I J ∧ ∀ q, (pm_C (d + 2) 35 [.ref 538] (Wm I k o) q ↔ q = (.inl none, Wm J k o))) := by
  have h240 := hT.1
  have hok := e_num_ok hx
  have hd0 := hok.2.2.2.2.2
  have hopen : ∀ q, (pm_C (d + 2) 35 [.ref 538] (Wm I k o) q ↔ pm_R (d + 1) 35 4 [some (.ref 538), some (.int 0), some (.int (nI 0))] [] (Wm I k o) q) := by
    intro q
    rw [n35]
    simp only [q35_0, q35_1, q35_2, q35_3]
    exact Iff.rfl
  have l0 : nI 0 < 3 := by decide
  have l1 : nI 1 < 3 := by decide
  have l2 : nI 2 < 3 := by decide
  have hl0 := nx_lt (T := T) (p := p) (by have := of_decide_eq_true hd0; omega)
  have c0 := of_decide_eq_true hd0
  have ev : ∀ v n : Nat, 48 ≤ n → (10 : Int32) * nI v + nI n - 48 = nI (v * 10 + (n - 48)) := by
    intro v n hn
    rw [show (10 : Int32) = nI 10 from rfl, sm_mul, sm_add, show (48 : Int32) = nI 48 from rfl, sm_sub (by omega)]
    congr 1
    omega
  have hA1 : MT T (p + 1) wr K W (uA I (p + 1)) := h.a
  have s1 : ∀ q, (pm_C (d + 2) 35 [.ref 538] (Wm I k o) q ↔ pm_R (d + 1) 35 4 [some (.ref 538), some (.int (nI (nx T p - 48))), some (.int (nI 1))] [] (Wm (uA I (p + 1)) k o) q) := by
    intro q
    have := ev 0 (nx T p) c0.1
    rw [Nat.zero_mul, Nat.zero_add, show nI 0 = (0 : Int32) from rfl] at this
    rw [hopen, c35_d hT h hp hd0, if_pos l0, this]
  have key : ∀ p' n v (J : Nat → Nat → Int32), MT T p' wr K W J → FN I J → p' ≤ T.length → n ≤ 3 → e_dig (nx T p') = false → (∀ q, (pm_C (d + 2) 35 [.ref 538] (Wm I k o) q ↔ pm_R (d + 1) 35 4 [some (.ref 538), some (.int (nI v)), some (.int (nI n))] [] (Wm J k o) q)) → ∃ J', MT T p' wr (K ++ [(0, nI v)]) W J' ∧ FN I J' ∧ ∀ q, (pm_C (d + 2) 35 [.ref 538] (Wm I k o) q ↔ q = (.inl none, Wm J' k o)) := by
    intro p' n v J hJ hf hp' hn hd hq
    obtain ⟨J', g1, g2, g3⟩ := c35_e (d := d) (k := k) (o := o) (n := n) (v := nI v) hT hJ (by omega) hK
    have eb : (wr || decide (3 < n)) = wr := by simp; omega
    rw [eb] at g1
    exact ⟨J', g1, hf.trans g2, fun q => (hq q).trans ((c35_x hT hJ hp' hd).trans (g3 q))⟩
  unfold e_num at hx
  rw [if_neg (by rw [hd0]; simp)] at hx
  split at hx
  · rename_i hd1
    injection hx with hx
    subst hx
    exact ⟨fun _ => key (p + 1) 1 _ _ hA1 fA (by omega) (by omega) hd1 s1, fun q => by rw [hd1] at q; cases q⟩
  · rename_i hd1
    have hd1 : e_dig (nx T (p + 1)) = true := by simpa using hd1
    have c1 := of_decide_eq_true hd1
    have hl1 := nx_lt (T := T) (p := p + 1) (by omega)
    have hA2 : MT T (p + 2) wr K W (uA (uA I (p + 1)) (p + 2)) := hA1.a
    have s2 : ∀ q, (pm_C (d + 2) 35 [.ref 538] (Wm I k o) q ↔ pm_R (d + 1) 35 4 [some (.ref 538), some (.int (nI ((nx T p - 48) * 10 + (nx T (p + 1) - 48)))), some (.int (nI 2))] [] (Wm (uA (uA I (p + 1)) (p + 2)) k o) q) := by
      intro q
      rw [s1, c35_d hT hA1 (by omega) hd1, if_pos l1, ev _ _ c1.1]
    split at hx
    · rename_i hd2
      injection hx with hx
      subst hx
      exact ⟨fun _ => key (p + 2) 2 _ _ hA2 (fA.trans fA) (by omega) (by omega) hd2 s2, fun q => by rw [hd2] at q; cases q⟩
    · rename_i hd2
      have hd2 : e_dig (nx T (p + 2)) = true := by simpa using hd2
      have c2 := of_decide_eq_true hd2
      have hl2 := nx_lt (T := T) (p := p + 2) (by omega)
      have hA3 : MT T (p + 3) wr K W (uA (uA (uA I (p + 1)) (p + 2)) (p + 3)) := hA2.a
      have s3 : ∀ q, (pm_C (d + 2) 35 [.ref 538] (Wm I k o) q ↔ pm_R (d + 1) 35 4 [some (.ref 538), some (.int (nI (((nx T p - 48) * 10 + (nx T (p + 1) - 48)) * 10 + (nx T (p + 2) - 48)))), some (.int (nI 3))] [] (Wm (uA (uA (uA I (p + 1)) (p + 2)) (p + 3)) k o) q) := by
        intro q
        rw [s2, c35_d hT hA2 (by omega) hd2, if_pos l2, ev _ _ c2.1]
      injection hx with hx
      subst hx
      refine ⟨fun hd3 => key (p + 3) 3 _ _ hA3 ((fA.trans fA).trans fA) (by omega) (by omega) hd3 s3, fun hd3 => ?_⟩
      have hd3 : e_dig (nx T (p + 3)) = true := hd3
      obtain ⟨p', n', J, a1, a2, a3, a4, a5, a6, a7, a8⟩ := c35_s (d := d) (k := k) (o := o) (v := nI (((nx T p - 48) * 10 + (nx T (p + 1) - 48)) * 10 + (nx T (p + 2) - 48))) hT 250 (p + 3) 3 _ (by omega) hA3 (by omega) (by omega) (by omega)
      have hlt := a6 hd3
      obtain ⟨J', g1, g2, g3⟩ := c35_e (d := d) (k := k) (o := o) (n := n') (v := nI (((nx T p - 48) * 10 + (nx T (p + 1) - 48)) * 10 + (nx T (p + 2) - 48))) hT a1 (by omega) hK
      have eb : (wr || decide (3 < n')) = true := by simp; omega
      rw [eb] at g1
      exact ⟨J', p', _, g1, by omega, a4, (((fA.trans fA).trans fA).trans a2).trans g2, fun q => (s3 q).trans ((a8 q).trans (g3 q))⟩
/-- a plain operand -/
theorem c36 (hT : TX T) {p : Nat} {ch : Bool} {I : Nat → Nat → Int32} (h : MT T p false K W I) (hp : p ≤ T.length) (hK : K.length < 499) :
    (∀ x, m_plain T ch p = some x → ∃ J, MT T x.1 false (K ++ [(nI x.2.1, nI x.2.2)]) W J ∧ FN I J ∧ ∀ q, (pm_C (d + 4) 36 [.ref 538, .int (bI ch)] (Wm I k o) q ↔ q = (.inl (some (.int 1)), Wm J k o))) ∧
    (m_plain T ch p = none → ∃ J p' b K', MT T p' (b == 1) K' W J ∧ p' ≤ T.length ∧ p ≤ p' ∧ K'.length + p ≤ K.length + p' ∧ (b = 0 ∨ b = 1) ∧ FN I J ∧ ∀ q, (pm_C (d + 4) 36 [.ref 538, .int (bI ch)] (Wm I k o) q ↔ q = (.inl (some (.int b)), Wm J k o))) := by
  have h240 := hT.1
  have h126 := nx_126 hT p
  have a26 : ∀ {d : Nat} (q : pm_Res), (pm_C (d + 1) 26 [.ref 538] (Wm I k o) q ↔ q = (.inl (some (.int (nI (nx T p)))), Wm I k o)) := fun q => c26 hT h.1 h.2.1 (by omega)
  have a34 : ∀ {d : Nat} {M : pm_Mem} (q : pm_Res), (pm_C (d + 1) 34 [.int (nI (nx T p))] M q ↔ q = (.inl (some (.int (bI (e_dig (nx T p))))), M)) := fun q => c34 (by omega)
  have a33 : ∀ {d : Nat} {M : pm_Mem} (q : pm_Res), (pm_C (d + 2) 33 [.int (nI (nx T p))] M q ↔ q = (.inl (some (.int (ixI (e_ix e_W (nx T p))))), M)) := fun q => c33 (by omega)
  have b1 : bI true = 1 := rfl
  have b0 : bI false = 0 := rfl
  unfold m_plain
  cases hd : e_dig (nx T p) with
  | true =>
    rw [if_pos rfl]
    cases en : e_num T p with
    | none =>
      rw [e_num_nL, if_pos hd] at en
      cases en
    | some y =>
      have h35 := c35 (d := d + 1) (k := k) (o := o) hT h hp (by omega) en
      simp only []
      by_cases hd2 : e_dig (nx T y.1) = true
      · rw [if_pos hd2]
        refine ⟨fun x hx => (by cases hx), fun _ => ?_⟩
        obtain ⟨J, p', v, g1, g2, g3, g4, g5⟩ := h35.2 hd2
        refine ⟨J, p', 1, _, g1, g3, by omega, by simp; omega, Or.inr rfl, g4, fun q => ?_⟩
        rw [n36]
        simp (decide := true) only [q36_0, q36_1, q36_4, q36_5, q36_6, q36_9, q36_12, q36_13, q36_16, q36_17, W_1, W_I, W_mk, W_tk, pm_rv, rf_0_0, rf_0_1, rf_0_2, rf_0_3, rf_0_4, rf_0_7, rf_0_8, rf_1_0, rf_1_2, rf_3_0, rf_3_1, rf_3_6, rf_3_7, rf_3_8, rf_9_0, rf_9_1, rf_10_0, rf_10_1, rf_10_6, rf_10_7, rf_10_8, rf_17_0, rf_17_1, rf_538_2, rf_538_6, rf_538_7, rf_538_9, rf_538_11, rf_538_12, rf_538_18, rf_538_19, rf_538_22, rf_538_23, rf_538_25, rf_538_27, rf_538_28, rf_538_30, rf_538_31, rf_538_32, rf_538_33, rf_538_34, rf_538_35, rf_538_36, ob_0, ob_1, ob_3, ob_9, ob_10, ob_17, ob_538, ar_2, ar_4, ar_5, ar_6, ar_7, ar_8, ar_11, ar_12, ar_13, ar_14, ar_15, ar_16, ar_116, ar_117, ar_539, ar_540, ar_541, ar_542, ar_543, ar_544, ar_545, ar_546, ar_547, ar_548, ar_549, ar_550, ar_551, ar_552, ar_553, ar_554, ar_555, ar_556, ar_557, ar_558, ex_eq, ex_ite, pm_bk_r, pm_bk_t, ol_nil, ol_one, true_and, and_true, false_and, and_false, reduceIte, Nat.reduceEqDiff, up_at, Nat.add_left_cancel_iff, a26, a34, hd, b1, g5]
      · rw [if_neg hd2]
        refine ⟨fun x hx => ?_, fun hx => (by cases hx)⟩
        injection hx with hx
        subst hx
        obtain ⟨J, g1, g2, g3⟩ := h35.1 (by simpa using hd2)
        refine ⟨J, g1, g2, fun q => ?_⟩
        rw [n36]
        simp (decide := true) only [q36_0, q36_1, q36_4, q36_5, q36_6, q36_9, q36_12, q36_13, q36_16, q36_17, W_1, W_I, W_mk, W_tk, pm_rv, rf_0_0, rf_0_1, rf_0_2, rf_0_3, rf_0_4, rf_0_7, rf_0_8, rf_1_0, rf_1_2, rf_3_0, rf_3_1, rf_3_6, rf_3_7, rf_3_8, rf_9_0, rf_9_1, rf_10_0, rf_10_1, rf_10_6, rf_10_7, rf_10_8, rf_17_0, rf_17_1, rf_538_2, rf_538_6, rf_538_7, rf_538_9, rf_538_11, rf_538_12, rf_538_18, rf_538_19, rf_538_22, rf_538_23, rf_538_25, rf_538_27, rf_538_28, rf_538_30, rf_538_31, rf_538_32, rf_538_33, rf_538_34, rf_538_35, rf_538_36, ob_0, ob_1, ob_3, ob_9, ob_10, ob_17, ob_538, ar_2, ar_4, ar_5, ar_6, ar_7, ar_8, ar_11, ar_12, ar_13, ar_14, ar_15, ar_16, ar_116, ar_117, ar_539, ar_540, ar_541, ar_542, ar_543, ar_544, ar_545, ar_546, ar_547, ar_548, ar_549, ar_550, ar_551, ar_552, ar_553, ar_554, ar_555, ar_556, ar_557, ar_558, ex_eq, ex_ite, pm_bk_r, pm_bk_t, ol_nil, ol_one, true_and, and_true, false_and, and_false, reduceIte, Nat.reduceEqDiff, up_at, Nat.add_left_cancel_iff, a26, a34, hd, b1, g3]
  | false =>
    rw [if_neg (by simp)]
    have hopen : ∀ q, (pm_C (d + 4) 36 [.ref 538, .int (bI ch)] (Wm I k o) q ↔ pm_R (d + 3) 36 22 [some (.ref 538), some (.int (bI ch)), some (.int (nI (nx T p)))] [.int (ixI (e_ix e_W (nx T p)))] (Wm I k o) q) := by
      intro q
      rw [n36]
      simp (decide := true) only [q36_0, q36_1, q36_4, q36_5, q36_6, q36_9, q36_12, q36_13, q36_16, q36_17, q36_18, q36_19, W_1, W_I, W_mk, W_tk, pm_rv, rf_0_0, rf_0_1, rf_0_2, rf_0_3, rf_0_4, rf_0_7, rf_0_8, rf_1_0, rf_1_2, rf_3_0, rf_3_1, rf_3_6, rf_3_7, rf_3_8, rf_9_0, rf_9_1, rf_10_0, rf_10_1, rf_10_6, rf_10_7, rf_10_8, rf_17_0, rf_17_1, rf_538_2, rf_538_6, rf_538_7, rf_538_9, rf_538_11, rf_538_12, rf_538_18, rf_538_19, rf_538_22, rf_538_23, rf_538_25, rf_538_27, rf_538_28, rf_538_30, rf_538_31, rf_538_32, rf_538_33, rf_538_34, rf_538_35, rf_538_36, ob_0, ob_1, ob_3, ob_9, ob_10, ob_17, ob_538, ar_2, ar_4, ar_5, ar_6, ar_7, ar_8, ar_11, ar_12, ar_13, ar_14, ar_15, ar_16, ar_116, ar_117, ar_539, ar_540, ar_541, ar_542, ar_543, ar_544, ar_545, ar_546, ar_547, ar_548, ar_549, ar_550, ar_551, ar_552, ar_553, ar_554, ar_555, ar_556, ar_557, ar_558, ex_eq, ex_ite, pm_bk_r, pm_bk_t, ol_nil, ol_one, true_and, and_true, false_and, and_false, reduceIte, Nat.reduceEqDiff, up_at, Nat.add_left_cancel_iff, a26, a34, hd, b0, a33]
    cases ew : e_ix e_W (nx T p) with
    | some i =>
      refine ⟨fun x hx => ?_, fun hx => (by cases hx)⟩
      injection hx with hx
      subst hx
      have hi : i < 4 := (e_ix_lt ew).1
      have hE := h.e (x := 1) (y := nI i)
      have h29 : ∀ q, (pm_C (d + 3) 29 [.ref 538, .int 1, .int (nI i)] (Wm I k o) q ↔ q = (.inl none, Wm (uE I K.length 1 (nI i)) k o)) := fun q => c29 h (by omega)
      have h3 : uE I K.length 1 (nI i) 538 3 = nI p := hE.2.1
      refine ⟨uA (uE I K.length 1 (nI i)) (p + 1), hE.a, fE.trans fA, fun q => ?_⟩
      have a33' := a33 (d := d + 1) (M := Wm I k o)
      rw [ew] at a33'
      rw [hopen, ew]
      simp (decide := true) only [q36_22, q36_25, q36_26, q36_27, q36_28, q36_31, q36_34, q36_35, q36_36, q36_39, q36_40, q36_41, q36_44, q36_45, W_1, W_I, W_mk, W_tk, pm_rv, rf_0_0, rf_0_1, rf_0_2, rf_0_3, rf_0_4, rf_0_7, rf_0_8, rf_1_0, rf_1_2, rf_3_0, rf_3_1, rf_3_6, rf_3_7, rf_3_8, rf_9_0, rf_9_1, rf_10_0, rf_10_1, rf_10_6, rf_10_7, rf_10_8, rf_17_0, rf_17_1, rf_538_2, rf_538_6, rf_538_7, rf_538_9, rf_538_11, rf_538_12, rf_538_18, rf_538_19, rf_538_22, rf_538_23, rf_538_25, rf_538_27, rf_538_28, rf_538_30, rf_538_31, rf_538_32, rf_538_33, rf_538_34, rf_538_35, rf_538_36, ob_0, ob_1, ob_3, ob_9, ob_10, ob_17, ob_538, ar_2, ar_4, ar_5, ar_6, ar_7, ar_8, ar_11, ar_12, ar_13, ar_14, ar_15, ar_16, ar_116, ar_117, ar_539, ar_540, ar_541, ar_542, ar_543, ar_544, ar_545, ar_546, ar_547, ar_548, ar_549, ar_550, ar_551, ar_552, ar_553, ar_554, ar_555, ar_556, ar_557, ar_558, ex_eq, ex_ite, pm_bk_r, pm_bk_t, ol_nil, ol_one, true_and, and_true, false_and, and_false, reduceIte, Nat.reduceEqDiff, up_at, Nat.add_left_cancel_iff, ixI, show (nI i < 0) ↔ False from iff_false_intro (sm_neg (by omega)), a33', h29, h3, sm_s]
      exact Iff.rfl
    | none =>
      simp only []
      have e35 : (nI (nx T p) = 35) ↔ nx T p = 35 := sm_inj (b := 35) (by omega) (by omega)
      have e114 : (nI (nx T p) = 114) ↔ nx T p = 114 := sm_inj (b := 114) (by omega) (by omega)
      have e117 : (nI (nx T p) = 117) ↔ nx T p = 117 := sm_inj (b := 117) (by omega) (by omega)
      have hA : MT T (p + 1) false K W (uA I (p + 1)) := h.a
      have hopen2 : ∀ q, (pm_C (d + 4) 36 [.ref 538, .int (bI ch)] (Wm I k o) q ↔ pm_R (d + 3) 36 46 [some (.ref 538), some (.int (bI ch)), some (.int (nI (nx T p)))] [] (Wm I k o) q) := by
        intro q
        rw [hopen, ew]
        simp (decide := true) only [q36_22, ex_eq, ex_ite, pm_bk_r, pm_bk_t, ol_nil, ol_one, true_and, and_true, false_and, and_false, reduceIte, Nat.reduceEqDiff, up_at, Nat.add_left_cancel_iff, ixI]
      by_cases n35 : nx T p = 35
      · rw [if_pos n35]
        have hlt := nx_lt (T := T) (p := p) (by omega)
        obtain ⟨J, g1, g2, g3⟩ := c31 (d := d + 1) (k := k) (o := o) hT hA (by omega)
        have ez : e_zone false (nx T (p + 1)) = e_ix e_Z (nx T (p + 1)) := if_neg (fun q => absurd q.1 (by decide))
        rw [ez]
        have h29 : ∀ v q, (pm_C (d + 3) 29 [.ref 538, .int 2, .int v] (Wm J k o) q ↔ q = (.inl none, Wm (uE J K.length 2 v) k o)) := fun v q => c29 g1 (by omega)
        have hadv : pm_up I 538 3 (nI (p + 1)) = uA I (p + 1) := rfl
        have hgo : ∀ q, (pm_C (d + 4) 36 [.ref 538, .int (bI ch)] (Wm I k o) q ↔ q = (.inl (some (.int 1)), Wm (uE J K.length 2 (ixI (e_ix e_Z (nx T (p + 1))))) k o)) := by
          intro q
          rw [hopen2]
          simp (decide := true) only [q36_46, q36_47, q36_49, q36_52, q36_53, q36_54, q36_57, q36_58, q36_59, q36_62, q36_63, q36_64, q36_65, q36_68, q36_71, q36_72, W_1, W_I, W_mk, W_tk, pm_rv, rf_0_0, rf_0_1, rf_0_2, rf_0_3, rf_0_4, rf_0_7, rf_0_8, rf_1_0, rf_1_2, rf_3_0, rf_3_1, rf_3_6, rf_3_7, rf_3_8, rf_9_0, rf_9_1, rf_10_0, rf_10_1, rf_10_6, rf_10_7, rf_10_8, rf_17_0, rf_17_1, rf_538_2, rf_538_6, rf_538_7, rf_538_9, rf_538_11, rf_538_12, rf_538_18, rf_538_19, rf_538_22, rf_538_23, rf_538_25, rf_538_27, rf_538_28, rf_538_30, rf_538_31, rf_538_32, rf_538_33, rf_538_34, rf_538_35, rf_538_36, ob_0, ob_1, ob_3, ob_9, ob_10, ob_17, ob_538, ar_2, ar_4, ar_5, ar_6, ar_7, ar_8, ar_11, ar_12, ar_13, ar_14, ar_15, ar_16, ar_116, ar_117, ar_539, ar_540, ar_541, ar_542, ar_543, ar_544, ar_545, ar_546, ar_547, ar_548, ar_549, ar_550, ar_551, ar_552, ar_553, ar_554, ar_555, ar_556, ar_557, ar_558, ex_eq, ex_ite, pm_bk_r, pm_bk_t, ol_nil, ol_one, true_and, and_true, false_and, and_false, reduceIte, Nat.reduceEqDiff, up_at, Nat.add_left_cancel_iff, e35, n35, h.2.1, sm_s, hadv, g3, h29]
        cases ey : e_ix e_Z (nx T (p + 1)) with
        | none =>
          refine ⟨fun x hx => (by cases hx), fun _ => ?_⟩
          rw [ey] at g1 hgo
          exact ⟨_, p + 1, 1, _, g1.e, by omega, by omega, by simp; omega, Or.inr rfl, (fA.trans g2).trans fE, hgo⟩
        | some z =>
          refine ⟨fun x hx => ?_, fun hx => (by cases hx)⟩
          injection hx with hx
          subst hx
          rw [ey] at g1 hgo
          rw [if_neg (by simp)] at g1
          exact ⟨_, g1.e, (fA.trans g2).trans fE, hgo⟩
      · rw [if_neg n35]
        have hz : ∀ (z : Nat), nx T p ≠ 0 → (∀ (J : Nat → Nat → Int32) (v : Int32), MT T (if e_zone true (nx T (p + 1)) = none then p + 1 else p + 1 + 1) (false || (e_zone ch (nx T (p + 1))).isNone) K W J → (∀ q, (pm_C (d + 3) 32 [.ref 538, .int (bI ch)] (Wm (uA I (p + 1)) k o) q ↔ q = (.inl (some (.int v)), Wm J k o))) → ∀ q, (pm_C (d + 4) 36 [.ref 538, .int (bI ch)] (Wm I k o) q ↔ q = (.inl (some (.int 1)), Wm (uE J K.length (nI z) v) k o))) →
            (∀ x, (e_zone ch (nx T (p + 1))).map (fun y => (p + 2, (z, y))) = some x → ∃ J, MT T x.1 false (K ++ [(nI x.2.1, nI x.2.2)]) W J ∧ FN I J ∧ ∀ q, (pm_C (d + 4) 36 [.ref 538, .int (bI ch)] (Wm I k o) q ↔ q = (.inl (some (.int 1)), Wm J k o))) ∧
            ((e_zone ch (nx T (p + 1))).map (fun y => (p + 2, (z, y))) = none → ∃ J p' b K', MT T p' (b == 1) K' W J ∧ p' ≤ T.length ∧ p ≤ p' ∧ K'.length + p ≤ K.length + p' ∧ (b = 0 ∨ b = 1) ∧ FN I J ∧ ∀ q, (pm_C (d + 4) 36 [.ref 538, .int (bI ch)] (Wm I k o) q ↔ q = (.inl (some (.int b)), Wm J k o))) := by
          intro z h0 hgo
          have hlt := nx_lt h0
          obtain ⟨J, v, g1, g2, g3, g4⟩ := c32 (d := d) (k := k) (o := o) hT hA (by omega) (ch := ch)
          have hgo := hgo J v g1 g4
          cases ey : e_zone ch (nx T (p + 1)) with
          | none =>
            refine ⟨fun x hx => (by cases hx), fun _ => ?_⟩
            rw [ey] at g1
            have hb : (if e_zone true (nx T (p + 1)) = none then p + 1 else p + 1 + 1) ≤ T.length ∧ p + 1 ≤ (if e_zone true (nx T (p + 1)) = none then p + 1 else p + 1 + 1) := by
              split
              · omega
              · rename_i e
                cases e2 : e_zone true (nx T (p + 1)) with
                | none => exact absurd e2 e
                | some y => have := nx_lt (e_zone_lt e2).2.2; omega
            exact ⟨_, _, 1, _, g1.e, hb.1, by omega, by rw [List.length_append]; show K.length + 1 + p ≤ _; omega, Or.inr rfl, (fA.trans g2).trans fE, hgo⟩
          | some y =>
            refine ⟨fun x hx => ?_, fun hx => (by cases hx)⟩
            injection hx with hx
            subst hx
            have e2 : ¬ e_zone true (nx T (p + 1)) = none := by
              intro e
              unfold e_zone at e ey
              split at e
              · cases e
              · rename_i q
                rw [if_neg (fun q2 => q ⟨rfl, q2.2⟩), e] at ey
                cases ey
            rw [ey, if_neg e2] at g1
            have hv := g3 y ey
            subst hv
            exact ⟨_, g1.e, (fA.trans g2).trans fE, hgo⟩
        have hadv : pm_up I 538 3 (nI (p + 1)) = uA I (p + 1) := rfl
        by_cases n114 : nx T p = 114
        · rw [if_pos n114]
          refine hz 3 (by omega) (fun J v g1 g4 q => ?_)
          have h29 : ∀ q, (pm_C (d + 3) 29 [.ref 538, .int 3, .int v] (Wm J k o) q ↔ q = (.inl none, Wm (uE J K.length 3 v) k o)) := fun q => c29 g1 (by omega)
          rw [hopen2]
          simp (decide := true) only [q36_46, q36_47, q36_49, q36_52, q36_53, q36_54, q36_57, q36_58, q36_59, q36_62, q36_63, q36_64, q36_65, q36_68, q36_71, q36_72, q36_73, q36_74, q36_76, q36_79, q36_80, q36_82, q36_85, q36_86, q36_87, q36_90, q36_91, q36_92, q36_95, q36_96, q36_97, q36_99, q36_102, q36_103, q36_106, q36_107, q36_108, q36_109, q36_112, q36_115, q36_116, W_1, W_I, W_mk, W_tk, pm_rv, rf_0_0, rf_0_1, rf_0_2, rf_0_3, rf_0_4, rf_0_7, rf_0_8, rf_1_0, rf_1_2, rf_3_0, rf_3_1, rf_3_6, rf_3_7, rf_3_8, rf_9_0, rf_9_1, rf_10_0, rf_10_1, rf_10_6, rf_10_7, rf_10_8, rf_17_0, rf_17_1, rf_538_2, rf_538_6, rf_538_7, rf_538_9, rf_538_11, rf_538_12, rf_538_18, rf_538_19, rf_538_22, rf_538_23, rf_538_25, rf_538_27, rf_538_28, rf_538_30, rf_538_31, rf_538_32, rf_538_33, rf_538_34, rf_538_35, rf_538_36, ob_0, ob_1, ob_3, ob_9, ob_10, ob_17, ob_538, ar_2, ar_4, ar_5, ar_6, ar_7, ar_8, ar_11, ar_12, ar_13, ar_14, ar_15, ar_16, ar_116, ar_117, ar_539, ar_540, ar_541, ar_542, ar_543, ar_544, ar_545, ar_546, ar_547, ar_548, ar_549, ar_550, ar_551, ar_552, ar_553, ar_554, ar_555, ar_556, ar_557, ar_558, ex_eq, ex_ite, pm_bk_r, pm_bk_t, ol_nil, ol_one, true_and, and_true, false_and, and_false, reduceIte, Nat.reduceEqDiff, up_at, Nat.add_left_cancel_iff, e35, n35, e114, n114, h.2.1, sm_s, hadv, g4, h29]
          exact Iff.rfl
        · rw [if_neg n114]
          by_cases n117 : nx T p = 117
          · rw [if_pos n117]
            refine hz 4 (by omega) (fun J v g1 g4 q => ?_)
            have h29 : ∀ q, (pm_C (d + 3) 29 [.ref 538, .int 4, .int v] (Wm J k o) q ↔ q = (.inl none, Wm (uE J K.length 4 v) k o)) := fun q => c29 g1 (by omega)
            rw [hopen2]
            simp (decide := true) only [q36_46, q36_47, q36_49, q36_52, q36_53, q36_54, q36_57, q36_58, q36_59, q36_62, q36_63, q36_64, q36_65, q36_68, q36_71, q36_72, q36_73, q36_74, q36_76, q36_79, q36_80, q36_82, q36_85, q36_86, q36_87, q36_90, q36_91, q36_92, q36_95, q36_96, q36_97, q36_99, q36_102, q36_103, q36_106, q36_107, q36_108, q36_109, q36_112, q36_115, q36_116, W_1, W_I, W_mk, W_tk, pm_rv, rf_0_0, rf_0_1, rf_0_2, rf_0_3, rf_0_4, rf_0_7, rf_0_8, rf_1_0, rf_1_2, rf_3_0, rf_3_1, rf_3_6, rf_3_7, rf_3_8, rf_9_0, rf_9_1, rf_10_0, rf_10_1, rf_10_6, rf_10_7, rf_10_8, rf_17_0, rf_17_1, rf_538_2, rf_538_6, rf_538_7, rf_538_9, rf_538_11, rf_538_12, rf_538_18, rf_538_19, rf_538_22, rf_538_23, rf_538_25, rf_538_27, rf_538_28, rf_538_30, rf_538_31, rf_538_32, rf_538_33, rf_538_34, rf_538_35, rf_538_36, ob_0, ob_1, ob_3, ob_9, ob_10, ob_17, ob_538, ar_2, ar_4, ar_5, ar_6, ar_7, ar_8, ar_11, ar_12, ar_13, ar_14, ar_15, ar_16, ar_116, ar_117, ar_539, ar_540, ar_541, ar_542, ar_543, ar_544, ar_545, ar_546, ar_547, ar_548, ar_549, ar_550, ar_551, ar_552, ar_553, ar_554, ar_555, ar_556, ar_557, ar_558, ex_eq, ex_ite, pm_bk_r, pm_bk_t, ol_nil, ol_one, true_and, and_true, false_and, and_false, reduceIte, Nat.reduceEqDiff, up_at, Nat.add_left_cancel_iff, e35, n35, e114, n114, e117, n117, h.2.1, sm_s, hadv, g4, h29]
            exact Iff.rfl
          · rw [if_neg n117]
            refine ⟨fun x hx => (by cases hx), fun _ => ⟨I, p, 0, K, h, hp, Nat.le_refl _, Nat.le_refl _, Or.inl rfl, FN.refl, fun q => ?_⟩⟩
            rw [hopen2]
            simp (decide := true) only [q36_46, q36_47, q36_49, q36_73, q36_74, q36_76, q36_79, q36_80, q36_82, q36_117, q36_118, W_1, W_I, W_mk, W_tk, pm_rv, rf_0_0, rf_0_1, rf_0_2, rf_0_3, rf_0_4, rf_0_7, rf_0_8, rf_1_0, rf_1_2, rf_3_0, rf_3_1, rf_3_6, rf_3_7, rf_3_8, rf_9_0, rf_9_1, rf_10_0, rf_10_1, rf_10_6, rf_10_7, rf_10_8, rf_17_0, rf_17_1, rf_538_2, rf_538_6, rf_538_7, rf_538_9, rf_538_11, rf_538_12, rf_538_18, rf_538_19, rf_538_22, rf_538_23, rf_538_25, rf_538_27, rf_538_28, rf_538_30, rf_538_31, rf_538_32, rf_538_33, rf_538_34, rf_538_35, rf_538_36, ob_0, ob_1, ob_3, ob_9, ob_10, ob_17, ob_538, ar_2, ar_4, ar_5, ar_6, ar_7, ar_8, ar_11, ar_12, ar_13, ar_14, ar_15, ar_16, ar_116, ar_117, ar_539, ar_540, ar_541, ar_542, ar_543, ar_544, ar_545, ar_546, ar_547, ar_548, ar_549, ar_550, ar_551, ar_552, ar_553, ar_554, ar_555, ar_556, ar_557, ar_558, ex_eq, ex_ite, pm_bk_r, pm_bk_t, ol_nil, ol_one, true_and, and_true, false_and, and_false, reduceIte, Nat.reduceEqDiff, up_at, Nat.add_left_cancel_iff, e35, n35, e114, n114, e117, n117]
end MXP
