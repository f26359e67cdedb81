/-! THE CLASS: readNumber, readUnit, readExpr -/
def RD (T : List Nat) (p : Nat) (K : List (Nat × Nat)) (ch : Bool) (I : Nat → Nat → Int32) : Prop := RT T I ∧ I 1 3 = nI p ∧ DS K I ∧ I 1 4 = (if ch = true then 1 else 0)
def FD (I J : Nat → Nat → Int32) : Prop := ∀ x j, ¬ (x = 1 ∧ j = 3) → ¬ (x = 3 ∧ j = 2) → x ≠ 4 → x ≠ 5 → J x j = I x j
theorem FD.refl {I : Nat → Nat → Int32} : FD I I := fun _ _ _ _ _ _ => rfl
theorem FD.trans {I J K : Nat → Nat → Int32} (h1 : FD I J) (h2 : FD J K) : FD I K := fun x j a b c e => (h2 x j a b c e).trans (h1 x j a b c e)
theorem FD.adv {I : Nat → Nat → Int32} {p : Nat} : FD I (adv I p) := fun x j a _ _ _ => up_ne a
theorem FD.em {I : Nat → Nat → Int32} {K : List (Nat × Nat)} {x : Nat × Nat} : FD I (emI K x I) := fun y j _ b c e => em_ne b c e
theorem RD.ad {T : List Nat} {p p' : Nat} {K : List (Nat × Nat)} {ch : Bool} {I : Nat → Nat → Int32} (h : RD T p K ch I) : RD T p' K ch (adv I p') := ⟨h.1.ad, up_eq, h.2.2.1.ad, by unfold adv; rw [up_ne (by omega)]; exact h.2.2.2⟩
theorem RD.em {T : List Nat} {p : Nat} {K : List (Nat × Nat)} {x : Nat × Nat} {ch : Bool} {I : Nat → Nat → Int32} (h : RD T p K ch I) : RD T p (K ++ [x]) ch (emI K x I) := ⟨h.1.em, by rw [em_ne (by omega) (by omega) (by omega)]; exact h.2.1, h.2.2.1.em, by rw [em_ne (by omega) (by omega) (by omega)]; exact h.2.2.2⟩
theorem adv_adv {I : Nat → Nat → Int32} {a b : Nat} : adv (adv I a) b = adv I b := by
  funext x j
  unfold adv
  by_cases e : x = 1 ∧ j = 3
  · rw [e.1, e.2, up_eq, up_eq]
  · rw [up_ne e, up_ne e, up_ne e]
theorem adv_self {I : Nat → Nat → Int32} {p : Nat} (h : I 1 3 = nI p) : adv I p = I := by
  funext x j
  unfold adv
  rw [up_at]
  split
  · rename_i e; rw [e.1, e.2, h]
  · rfl
def e_nL (T : List Nat) : Nat → Nat → Nat → Nat × Nat
  | 0, p, v => (p, v)
  | m + 1, p, v => if e_dig (nx T p) = true then e_nL T m (p + 1) (v * 10 + (nx T p - 48)) else (p, v)
theorem e_num_nL {T : List Nat} {p : Nat} : e_num T p = if e_dig (nx T p) = true then some (e_nL T 3 p 0) else none := by
  unfold e_num
  cases e0 : e_dig (nx T p) with
  | false => rfl
  | true =>
    cases e1 : e_dig (nx T (p + 1)) with
    | false =>
      simp [e_nL, e0, e1]
    | true =>
      cases e2 : e_dig (nx T (p + 2)) with
      | false => simp [e_nL, e0, e1, e2]
      | true => simp [e_nL, e0, e1, e2]
section REX
variable {d k : Nat} {o : Int64}
theorem c99_l {T : List Nat} (hT : TX T) {q : pm_Res} : ∀ m n p v (I : Nat → Nat → Int32), n + m = 3 → RT T I → I 1 3 = nI p → p < 1000 →
    (pm_R (d + 1) 99 4 [some (.ref 1), some (.int (nI v)), some (.int (nI n))] [] (Wm I k o) q ↔ pm_R (d + 1) 99 56 [some (.ref 1), some (.int (nI (e_nL T m p v).2)), some (.int (nI (n + ((e_nL T m p v).1 - p))))] [] (Wm (adv I (e_nL T m p v).1) k o) q) ∧ p ≤ (e_nL T m p v).1 ∧ (e_nL T m p v).1 ≤ p + m := by
  intro m
  induction m with
  | zero =>
    intro n p v I hn hR hp hb
    obtain rfl : n = 3 := by omega
    refine ⟨?_, Nat.le_refl _, Nat.le_refl _⟩
    show _ ↔ pm_R (d + 1) 99 56 [some (.ref 1), some (.int (nI v)), some (.int (nI (3 + (p - p))))] [] (Wm (adv I p) k o) q
    rw [adv_self hp, Nat.sub_self, q99_4]
    simp (decide := true) only [q99_5, q99_6, ex_eq, ex_ite, pm_bk_r, pm_bk_t, ol_nil, ol_one, true_and, and_true, false_and, and_false, reduceIte, Nat.reduceEqDiff, up_at, Nat.add_left_cancel_iff]
  | succ m ih =>
    intro n p v I hn hR hp hb
    have h126 := nx_126 hT p
    have e48 : (nI (nx T p) < 48) ↔ nx T p < 48 := sm_lt (b := 48) (by omega) (by omega)
    have e57 : (57 < nI (nx T p)) ↔ 57 < nx T p := sm_lt (a := 57) (by omega) (by omega)
    rw [q99_4]
    simp (decide := true) only [q99_5, q99_6, q99_9, q99_10, q99_13, q99_15, q99_18, q99_19, q99_22, q99_24, W_1, W_I, W_mk, W_tk, pm_rv, rf_0_0, rf_0_1, rf_0_2, rf_0_3, rf_0_4, rf_0_7, rf_0_8, rf_1_0, rf_1_2, rf_3_0, rf_3_1, rf_3_6, rf_3_7, rf_3_8, rf_9_0, rf_9_1, rf_10_0, rf_10_1, rf_10_6, rf_10_7, rf_10_8, rf_17_0, rf_17_1, rf_538_2, rf_538_6, rf_538_7, rf_538_9, rf_538_11, rf_538_12, rf_538_18, rf_538_19, rf_538_22, rf_538_23, rf_538_25, rf_538_27, rf_538_28, rf_538_30, rf_538_31, rf_538_32, rf_538_33, rf_538_34, rf_538_35, rf_538_36, ob_0, ob_1, ob_3, ob_9, ob_10, ob_17, ob_538, ar_2, ar_4, ar_5, ar_6, ar_7, ar_8, ar_11, ar_12, ar_13, ar_14, ar_15, ar_16, ar_116, ar_117, ar_539, ar_540, ar_541, ar_542, ar_543, ar_544, ar_545, ar_546, ar_547, ar_548, ar_549, ar_550, ar_551, ar_552, ar_553, ar_554, ar_555, ar_556, ar_557, ar_558, ex_eq, ex_ite, pm_bk_r, pm_bk_t, ol_nil, ol_one, true_and, and_true, false_and, and_false, reduceIte, Nat.reduceEqDiff, up_at, Nat.add_left_cancel_iff, show (nI n < 3) ↔ True from iff_true_intro (by rw [show (3 : Int32) = nI 3 from rfl, sm_lt (by omega) (by omega)]; omega), c104 hT hR hp (show p < 100000 by omega), e48, e57]
    unfold e_nL
    by_cases hd : e_dig (nx T p) = true
    · have hd2 := of_decide_eq_true hd
      rw [if_pos hd, if_neg (by omega), if_neg (by omega)]
      have hlt := nx_lt (T := T) (p := p) (by omega)
      have h240 := hT.1
      have h1 := ih (n + 1) (p + 1) (v * 10 + (nx T p - 48)) (adv I (p + 1)) (by omega) hR.ad adv_p (by omega)
      have ev : nI v * 10 + (nI (nx T p) - 48) = nI (v * 10 + (nx T p - 48)) := by
        rw [show (10 : Int32) = nI 10 from rfl, sm_mul, show (48 : Int32) = nI 48 from rfl, sm_sub (by omega), sm_add]
      have h11 := h1.1
      rw [adv_adv, show n + 1 + ((e_nL T m (p + 1) (v * 10 + (nx T p - 48))).1 - (p + 1)) = n + ((e_nL T m (p + 1) (v * 10 + (nx T p - 48))).1 - p) by omega] at h11
      refine ⟨?_, by omega, by omega⟩
      rw [← h11]
      simp (decide := true) only [q99_27, q99_28, q99_30, q99_31, q99_32, q99_35, q99_37, q99_38, q99_39, q99_40, q99_41, q99_42, q99_45, q99_46, q99_47, q99_50, q99_53, W_1, W_I, W_mk, W_tk, pm_rv, rf_0_0, rf_0_1, rf_0_2, rf_0_3, rf_0_4, rf_0_7, rf_0_8, rf_1_0, rf_1_2, rf_3_0, rf_3_1, rf_3_6, rf_3_7, rf_3_8, rf_9_0, rf_9_1, rf_10_0, rf_10_1, rf_10_6, rf_10_7, rf_10_8, rf_17_0, rf_17_1, rf_538_2, rf_538_6, rf_538_7, rf_538_9, rf_538_11, rf_538_12, rf_538_18, rf_538_19, rf_538_22, rf_538_23, rf_538_25, rf_538_27, rf_538_28, rf_538_30, rf_538_31, rf_538_32, rf_538_33, rf_538_34, rf_538_35, rf_538_36, ob_0, ob_1, ob_3, ob_9, ob_10, ob_17, ob_538, ar_2, ar_4, ar_5, ar_6, ar_7, ar_8, ar_11, ar_12, ar_13, ar_14, ar_15, ar_16, ar_116, ar_117, ar_539, ar_540, ar_541, ar_542, ar_543, ar_544, ar_545, ar_546, ar_547, ar_548, ar_549, ar_550, ar_551, ar_552, ar_553, ar_554, ar_555, ar_556, ar_557, ar_558, ex_eq, ex_ite, pm_bk_r, pm_bk_t, ol_nil, ol_one, true_and, and_true, false_and, and_false, reduceIte, Nat.reduceEqDiff, up_at, Nat.add_left_cancel_iff, c104 hT hR hp (show p < 100000 by omega), ev, hp, sm_s]
      exact Iff.rfl
    · have hd2 : ¬ (48 ≤ nx T p ∧ nx T p ≤ 57) := fun q => hd (decide_eq_true q)
      rw [if_neg hd]
      refine ⟨?_, Nat.le_refl _, by omega⟩
      show _ ↔ pm_R (d + 1) 99 56 [some (.ref 1), some (.int (nI v)), some (.int (nI (n + (p - p))))] [] (Wm (adv I p) k o) q
      rw [adv_self hp, Nat.sub_self]
      by_cases h48 : nx T p < 48
      · rw [if_pos h48]; exact Iff.rfl
      · rw [if_neg h48, if_pos (by omega)]; exact Iff.rfl
theorem c99 {T : List Nat} (hT : TX T) {p : Nat} {I : Nat → Nat → Int32} (hR : RT T I) (hp : I 1 3 = nI p) (hb : p < 1000) {q : pm_Res} : (∀ x, e_num T p = some x → (pm_C (d + 2) 99 [.ref 1] (Wm I k o) q ↔ q = (.inl (some (.int (nI x.2))), Wm (adv I x.1) k o))) ∧ (e_num T p = none → (pm_C (d + 2) 99 [.ref 1] (Wm I k o) q ↔ q = (.inr 0, Wm I (k + 1) o))) := by
  have h := c99_l (d := d) (k := k) (o := o) (q := q) hT 3 0 p 0 I rfl hR hp hb
  have hopen : pm_C (d + 2) 99 [.ref 1] (Wm I k o) q ↔ pm_R (d + 1) 99 56 [some (.ref 1), some (.int (nI (e_nL T 3 p 0).2)), some (.int (nI (0 + ((e_nL T 3 p 0).1 - p))))] [] (Wm (adv I (e_nL T 3 p 0).1) k o) q := by
    rw [n99, ← h.1]
    simp only [q99_0, q99_1, q99_2, q99_3]
    exact Iff.rfl
  rw [hopen, Nat.zero_add, e_num_nL]
  by_cases hd : e_dig (nx T p) = true
  · rw [if_pos hd]
    have h1 : p < (e_nL T 3 p 0).1 := by
      have e : e_num T p = some (e_nL T 3 p 0) := by rw [e_num_nL, if_pos hd]
      exact (e_num_ok e).1
    refine ⟨fun x hx => ?_, fun hx => by cases hx⟩
    injection hx with hx
    subst hx
    simp only [q99_56, q99_57, q99_60, q99_70, q99_71, ex_eq, ex_ite, pm_bk_r, pm_bk_t, ol_nil, ol_one, true_and, and_true, false_and, and_false, reduceIte, Nat.reduceEqDiff, up_at, Nat.add_left_cancel_iff, show (nI ((e_nL T 3 p 0).1 - p) = 0) ↔ False from iff_false_intro (by rw [show (0 : Int32) = nI 0 from rfl, sm_inj (by omega) (by omega)]; omega)]
  · rw [if_neg hd]
    refine ⟨fun x hx => (by cases hx), fun _ => ?_⟩
    have e : e_nL T 3 p 0 = (p, 0) := by
      show (if e_dig (nx T p) = true then _ else _) = _
      rw [if_neg hd]
    rw [e]
    simp (decide := true) only [q99_56, q99_57, q99_60, ex_eq, ex_ite, pm_bk_r, pm_bk_t, ol_nil, ol_one, true_and, and_true, false_and, and_false, reduceIte, Nat.reduceEqDiff, up_at, Nat.add_left_cancel_iff, Nat.sub_self, adv_self hp, W_tk]
/-- the nots ahead of a unit -/
theorem c98_n {T : List Nat} (hT : TX T) {x1 x3 x4 : Option Value} {q : pm_Res} : ∀ m n p (I : Nat → Nat → Int32), n + m = 4 → RT T I → I 1 3 = nI p → p ≤ T.length →
    (pm_R (d + 2) 98 2 [some (.ref 1), x1, some (.int (nI n)), x3, x4] [] (Wm I k o) q ↔ pm_R (d + 2) 98 22 [some (.ref 1), x1, some (.int (nI (n + e_nots T m p))), x3, x4] [] (Wm (adv I (p + e_nots T m p)) k o) q) := by
  have h240 := hT.1
  intro m
  induction m with
  | zero =>
    intro n p I hn hR hp hb
    obtain rfl : n = 4 := by omega
    show _ ↔ pm_R (d + 2) 98 22 [some (.ref 1), x1, some (.int (nI 4)), x3, x4] [] (Wm (adv I p) k o) q
    rw [adv_self hp, q98_2]
    simp (decide := true) only [q98_3, q98_4, ex_eq, ex_ite, pm_bk_r, pm_bk_t, ol_nil, ol_one, true_and, and_true, false_and, and_false, reduceIte, Nat.reduceEqDiff, up_at, Nat.add_left_cancel_iff]
  | succ m ih =>
    intro n p I hn hR hp hb
    rw [q98_2]
    simp (decide := true) only [q98_3, q98_4, q98_7, q98_8, q98_10, W_1, W_I, W_mk, W_tk, pm_rv, rf_0_0, rf_0_1, rf_0_2, rf_0_3, rf_0_4, rf_0_7, rf_0_8, rf_1_0, rf_1_2, rf_3_0, rf_3_1, rf_3_6, rf_3_7, rf_3_8, rf_9_0, rf_9_1, rf_10_0, rf_10_1, rf_10_6, rf_10_7, rf_10_8, rf_17_0, rf_17_1, rf_538_2, rf_538_6, rf_538_7, rf_538_9, rf_538_11, rf_538_12, rf_538_18, rf_538_19, rf_538_22, rf_538_23, rf_538_25, rf_538_27, rf_538_28, rf_538_30, rf_538_31, rf_538_32, rf_538_33, rf_538_34, rf_538_35, rf_538_36, ob_0, ob_1, ob_3, ob_9, ob_10, ob_17, ob_538, ar_2, ar_4, ar_5, ar_6, ar_7, ar_8, ar_11, ar_12, ar_13, ar_14, ar_15, ar_16, ar_116, ar_117, ar_539, ar_540, ar_541, ar_542, ar_543, ar_544, ar_545, ar_546, ar_547, ar_548, ar_549, ar_550, ar_551, ar_552, ar_553, ar_554, ar_555, ar_556, ar_557, ar_558, ex_eq, ex_ite, pm_bk_r, pm_bk_t, ol_nil, ol_one, true_and, and_true, false_and, and_false, reduceIte, Nat.reduceEqDiff, up_at, Nat.add_left_cancel_iff, show (nI n < 4) ↔ True from iff_true_intro (by rw [show (4 : Int32) = nI 4 from rfl, sm_lt (by omega) (by omega)]; omega), show (33 : Int32) = nI 33 from rfl, c103 hT hR hp (show p < 100000 by omega) (show 33 < 100000 by omega)]
    unfold e_nots
    by_cases e : nx T p = 33
    · rw [if_pos e, if_pos e]
      have hlt := nx_lt (T := T) (p := p) (by omega)
      have h1 := ih (n + 1) (p + 1) (adv I (p + 1)) (by omega) hR.ad adv_p (by omega)
      rw [adv_adv, show n + 1 + e_nots T m (p + 1) = n + (e_nots T m (p + 1) + 1) by omega, show p + 1 + e_nots T m (p + 1) = p + (e_nots T m (p + 1) + 1) by omega] at h1
      rw [← h1]
      simp (decide := true) only [q98_13, q98_16, q98_19, W_1, W_I, W_mk, W_tk, pm_rv, rf_0_0, rf_0_1, rf_0_2, rf_0_3, rf_0_4, rf_0_7, rf_0_8, rf_1_0, rf_1_2, rf_3_0, rf_3_1, rf_3_6, rf_3_7, rf_3_8, rf_9_0, rf_9_1, rf_10_0, rf_10_1, rf_10_6, rf_10_7, rf_10_8, rf_17_0, rf_17_1, rf_538_2, rf_538_6, rf_538_7, rf_538_9, rf_538_11, rf_538_12, rf_538_18, rf_538_19, rf_538_22, rf_538_23, rf_538_25, rf_538_27, rf_538_28, rf_538_30, rf_538_31, rf_538_32, rf_538_33, rf_538_34, rf_538_35, rf_538_36, ob_0, ob_1, ob_3, ob_9, ob_10, ob_17, ob_538, ar_2, ar_4, ar_5, ar_6, ar_7, ar_8, ar_11, ar_12, ar_13, ar_14, ar_15, ar_16, ar_116, ar_117, ar_539, ar_540, ar_541, ar_542, ar_543, ar_544, ar_545, ar_546, ar_547, ar_548, ar_549, ar_550, ar_551, ar_552, ar_553, ar_554, ar_555, ar_556, ar_557, ar_558, ex_eq, ex_ite, pm_bk_r, pm_bk_t, ol_nil, ol_one, true_and, and_true, false_and, and_false, reduceIte, Nat.reduceEqDiff, up_at, Nat.add_left_cancel_iff, sm_s]
    · rw [if_neg e, if_neg e]
      show _ ↔ pm_R (d + 2) 98 22 [some (.ref 1), x1, some (.int (nI n)), x3, x4] [] (Wm (adv I p) k o) q
      rw [adv_self hp]
      simp (decide := true) only [q98_13, W_1, W_I, W_mk, W_tk, pm_rv, rf_0_0, rf_0_1, rf_0_2, rf_0_3, rf_0_4, rf_0_7, rf_0_8, rf_1_0, rf_1_2, rf_3_0, rf_3_1, rf_3_6, rf_3_7, rf_3_8, rf_9_0, rf_9_1, rf_10_0, rf_10_1, rf_10_6, rf_10_7, rf_10_8, rf_17_0, rf_17_1, rf_538_2, rf_538_6, rf_538_7, rf_538_9, rf_538_11, rf_538_12, rf_538_18, rf_538_19, rf_538_22, rf_538_23, rf_538_25, rf_538_27, rf_538_28, rf_538_30, rf_538_31, rf_538_32, rf_538_33, rf_538_34, rf_538_35, rf_538_36, ob_0, ob_1, ob_3, ob_9, ob_10, ob_17, ob_538, ar_2, ar_4, ar_5, ar_6, ar_7, ar_8, ar_11, ar_12, ar_13, ar_14, ar_15, ar_16, ar_116, ar_117, ar_539, ar_540, ar_541, ar_542, ar_543, ar_544, ar_545, ar_546, ar_547, ar_548, ar_549, ar_550, ar_551, ar_552, ar_553, ar_554, ar_555, ar_556, ar_557, ar_558, ex_eq, ex_ite, pm_bk_r, pm_bk_t, ol_nil, ol_one, true_and, and_true, false_and, and_false, reduceIte, Nat.reduceEqDiff, up_at, Nat.add_left_cancel_iff]
/-- .. and behind it -/
theorem c98_e {T : List Nat} {ch : Bool} {n : Nat} (hn : n ≤ 4) {x1 x3 : Option Value} : ∀ m i p K (I : Nat → Nat → Int32), i + m = n → RD T p K ch I → K.length + m < 10000 →
    ∃ J, RD T p (K ++ List.replicate m (12, 0)) ch J ∧ FD I J ∧ ∀ q, (pm_R (d + 1) 98 185 [some (.ref 1), x1, some (.int (nI n)), x3, some (.int (nI i))] [] (Wm I k o) q ↔ q = (.inl none, Wm J k o)) := by
  intro m
  induction m with
  | zero =>
    intro i p K I hi h hl
    refine ⟨I, ?_, FD.refl, fun q => ?_⟩
    · show RD T p (K ++ []) ch I
      rw [List.append_nil]; exact h
    · rw [q98_185]
      simp only [q98_187, q98_188, q98_207, ex_eq, ex_ite, pm_bk_r, pm_bk_t, ol_nil, ol_one, true_and, and_true, false_and, and_false, reduceIte, Nat.reduceEqDiff, up_at, Nat.add_left_cancel_iff, show (nI i < nI n) ↔ False from iff_false_intro (by rw [sm_lt (by omega) (by omega)]; omega)]
  | succ m ih =>
    intro i p K I hi h hl
    obtain ⟨J, g1, g2, g3⟩ := ih (i + 1) p (K ++ [(12, 0)]) _ (by omega) h.em (by simp; omega)
    refine ⟨J, ?_, FD.em.trans g2, fun q => ?_⟩
    · rw [show K ++ List.replicate (m + 1) (12, 0) = K ++ [(12, 0)] ++ List.replicate m (12, 0) by rw [List.append_assoc]; rfl]
      exact g1
    · rw [q98_185]
      have h80 : ∀ {d : Nat} (q : pm_Res), (pm_C (d + 1) 80 [.ref 3, .int 12, .int 0] (Wm I k o) q ↔ q = (.inl none, Wm (emI K (12, 0) I) k o)) := fun q => c80 (z := 12) (a := 0) h.2.2.1 (by omega)
      simp only [q98_187, q98_188, q98_191, q98_192, q98_195, q98_197, q98_198, q98_201, q98_204, W_1, W_I, W_mk, W_tk, pm_rv, rf_0_0, rf_0_1, rf_0_2, rf_0_3, rf_0_4, rf_0_7, rf_0_8, rf_1_0, rf_1_2, rf_3_0, rf_3_1, rf_3_6, rf_3_7, rf_3_8, rf_9_0, rf_9_1, rf_10_0, rf_10_1, rf_10_6, rf_10_7, rf_10_8, rf_17_0, rf_17_1, rf_538_2, rf_538_6, rf_538_7, rf_538_9, rf_538_11, rf_538_12, rf_538_18, rf_538_19, rf_538_22, rf_538_23, rf_538_25, rf_538_27, rf_538_28, rf_538_30, rf_538_31, rf_538_32, rf_538_33, rf_538_34, rf_538_35, rf_538_36, ob_0, ob_1, ob_3, ob_9, ob_10, ob_17, ob_538, ar_2, ar_4, ar_5, ar_6, ar_7, ar_8, ar_11, ar_12, ar_13, ar_14, ar_15, ar_16, ar_116, ar_117, ar_539, ar_540, ar_541, ar_542, ar_543, ar_544, ar_545, ar_546, ar_547, ar_548, ar_549, ar_550, ar_551, ar_552, ar_553, ar_554, ar_555, ar_556, ar_557, ar_558, ex_eq, ex_ite, pm_bk_r, pm_bk_t, ol_nil, ol_one, true_and, and_true, false_and, and_false, reduceIte, Nat.reduceEqDiff, up_at, Nat.add_left_cancel_iff, show (nI i < nI n) ↔ True from iff_true_intro (by rw [sm_lt (by omega) (by omega)]; omega), h80, sm_s, g3]
/-- what a reading method does -/
def EX (k : Nat) (o : Int64) (T : List Nat) (ch : Bool) (call : pm_Mem → pm_Res → Prop) (rec : Nat → Option (Nat × List (Nat × Nat))) : Prop := ∀ p K I, RD T p K ch I → K.length ≤ p → p ≤ T.length →
  (∀ x, rec p = some x → ∃ J, RD T x.1 (K ++ x.2) ch J ∧ FD I J ∧ ∀ q, (call (Wm I k o) q ↔ q = (.inl none, Wm J k o))) ∧
  (rec p = none → ∃ J, FD I J ∧ ∀ q, (call (Wm I k o) q ↔ q = (.inr 0, Wm J (k + 1) o)))
/-- a unit behind its nots -/
theorem c98_c {T : List Nat} (hT : TX T) {ch : Bool} {b n : Nat} (hb : b ≤ 4) (hn : n ≤ 4) {rec : Nat → Option (Nat × List (Nat × Nat))} (hrec : ∀ p x, rec p = some x → e_good T p x) (hX : b < 4 → EX k o T ch (fun M q => pm_C (d + 5) 97 [.ref 1, .int 0, .int (nI (b + 1))] M q) rec) {x3 x4 : Option Value} {p : Nat} {K : List (Nat × Nat)} {I : Nat → Nat → Int32} (h : RD T p K ch I) (hK : K.length ≤ p) (hp : p ≤ T.length) :
    (∀ x, e_core T ch rec b p = some x → ∃ J z3, RD T x.1 (K ++ x.2) ch J ∧ FD I J ∧ ∀ q, (pm_R (d + 5) 98 22 [some (.ref 1), some (.int (nI b)), some (.int (nI n)), x3, x4] [] (Wm I k o) q ↔ pm_R (d + 5) 98 182 [some (.ref 1), some (.int (nI b)), some (.int (nI n)), z3, x4] [] (Wm J k o) q)) ∧
    (e_core T ch rec b p = none → ∃ J, FD I J ∧ ∀ q, (pm_R (d + 5) 98 22 [some (.ref 1), some (.int (nI b)), some (.int (nI n)), x3, x4] [] (Wm I k o) q ↔ q = (.inr 0, Wm J (k + 1) o))) := by
  have h240 := hT.1
  have h126 := nx_126 hT p
  have hopen : ∀ q, (pm_R (d + 5) 98 22 [some (.ref 1), some (.int (nI b)), some (.int (nI n)), x3, x4] [] (Wm I k o) q ↔ pm_R (d + 5) 98 32 [some (.ref 1), some (.int (nI b)), some (.int (nI n)), some (.int (ixI (e_ix e_W (nx T p)))), x4] [] (Wm I k o) q) := by
    intro q
    simp (decide := true) only [q98_22, q98_24, q98_25, q98_28, q98_31, W_1, W_I, W_mk, W_tk, pm_rv, rf_0_0, rf_0_1, rf_0_2, rf_0_3, rf_0_4, rf_0_7, rf_0_8, rf_1_0, rf_1_2, rf_3_0, rf_3_1, rf_3_6, rf_3_7, rf_3_8, rf_9_0, rf_9_1, rf_10_0, rf_10_1, rf_10_6, rf_10_7, rf_10_8, rf_17_0, rf_17_1, rf_538_2, rf_538_6, rf_538_7, rf_538_9, rf_538_11, rf_538_12, rf_538_18, rf_538_19, rf_538_22, rf_538_23, rf_538_25, rf_538_27, rf_538_28, rf_538_30, rf_538_31, rf_538_32, rf_538_33, rf_538_34, rf_538_35, rf_538_36, ob_0, ob_1, ob_3, ob_9, ob_10, ob_17, ob_538, ar_2, ar_4, ar_5, ar_6, ar_7, ar_8, ar_11, ar_12, ar_13, ar_14, ar_15, ar_16, ar_116, ar_117, ar_539, ar_540, ar_541, ar_542, ar_543, ar_544, ar_545, ar_546, ar_547, ar_548, ar_549, ar_550, ar_551, ar_552, ar_553, ar_554, ar_555, ar_556, ar_557, ar_558, ex_eq, ex_ite, pm_bk_r, pm_bk_t, ol_nil, ol_one, true_and, and_true, false_and, and_false, reduceIte, Nat.reduceEqDiff, up_at, Nat.add_left_cancel_iff, c104 (d := d + 4) hT h.1 h.2.1 (show p < 100000 by omega), c122W (d := d + 1) (show nx T p < 128 by omega), pm_str, true_or, or_true]
  have em1 : ((-1 : Int32) < 0) ↔ True := by decide
  have h80 : ∀ {I : Nat → Nat → Int32} {p' : Nat} (_ : RD T p' K ch I) (z a : Nat) (q : pm_Res), (pm_C (d + 4 + 1) 80 [.ref 3, .int (nI z), .int (nI a)] (Wm I k o) q ↔ q = (.inl none, Wm (emI K (z, a) I) k o)) := fun h z a q => c80 h.2.2.1 (by omega)
  have hch : ∀ {I : Nat → Nat → Int32} {p' : Nat} (_ : RD T p' K ch I), I 1 4 = (if ch = true then 1 else 0) := fun h => h.2.2.2
  unfold e_core
  cases ew : e_ix e_W (nx T p) with
  | some i =>
    refine ⟨fun x hx => ?_, fun hx => by cases hx⟩
    injection hx with hx
    subst hx
    have hi := e_ix_lt ew
    have hi4 : i < 4 := hi.1
    have hA : RD T (p + 1) K ch (adv I (p + 1)) := h.ad
    refine ⟨_, some (.int (nI i)), hA.em (x := (1, i)), FD.adv.trans FD.em, fun q => ?_⟩
    rw [hopen, ew]
    have h80' := h80 hA 1 i
    unfold adv at h80' ⊢
    simp (decide := true) only [q98_32, q98_33, q98_36, q98_37, q98_38, q98_41, q98_42, q98_43, q98_46, q98_47, q98_50, q98_51, q98_52, q98_55, W_1, W_I, W_mk, W_tk, pm_rv, rf_0_0, rf_0_1, rf_0_2, rf_0_3, rf_0_4, rf_0_7, rf_0_8, rf_1_0, rf_1_2, rf_3_0, rf_3_1, rf_3_6, rf_3_7, rf_3_8, rf_9_0, rf_9_1, rf_10_0, rf_10_1, rf_10_6, rf_10_7, rf_10_8, rf_17_0, rf_17_1, rf_538_2, rf_538_6, rf_538_7, rf_538_9, rf_538_11, rf_538_12, rf_538_18, rf_538_19, rf_538_22, rf_538_23, rf_538_25, rf_538_27, rf_538_28, rf_538_30, rf_538_31, rf_538_32, rf_538_33, rf_538_34, rf_538_35, rf_538_36, ob_0, ob_1, ob_3, ob_9, ob_10, ob_17, ob_538, ar_2, ar_4, ar_5, ar_6, ar_7, ar_8, ar_11, ar_12, ar_13, ar_14, ar_15, ar_16, ar_116, ar_117, ar_539, ar_540, ar_541, ar_542, ar_543, ar_544, ar_545, ar_546, ar_547, ar_548, ar_549, ar_550, ar_551, ar_552, ar_553, ar_554, ar_555, ar_556, ar_557, ar_558, ex_eq, ex_ite, pm_bk_r, pm_bk_t, ol_nil, ol_one, true_and, and_true, false_and, and_false, reduceIte, Nat.reduceEqDiff, up_at, Nat.add_left_cancel_iff, ixI, show (nI i < 0) ↔ False from iff_false_intro (sm_neg (by omega)), h.2.1, show (1 : Int32) = nI 1 from rfl, sm_add, h80']
  | none =>
    have hopen2 : ∀ q, (pm_R (d + 5) 98 22 [some (.ref 1), some (.int (nI b)), some (.int (nI n)), x3, x4] [] (Wm I k o) q ↔ pm_R (d + 5) 98 58 [some (.ref 1), some (.int (nI b)), some (.int (nI n)), some (.int (-1)), x4] [] (Wm I k o) q) := by
      intro q
      rw [hopen, ew]
      simp (decide := true) only [q98_32, q98_33, ex_eq, ex_ite, pm_bk_r, pm_bk_t, ol_nil, ol_one, true_and, and_true, false_and, and_false, reduceIte, Nat.reduceEqDiff, up_at, Nat.add_left_cancel_iff, ixI]
    -- a zone behind # r u
    have hA : RD T (p + 1) K ch (adv I (p + 1)) := h.ad
    have hzone : ∀ (bb : Bool) (z y : Nat) (hz : e_zone bb (nx T (p + 1)) = some y) (q : pm_Res), (pm_C (d + 5) 100 [.ref 1, .int (if bb = true then 1 else 0)] (Wm (adv I (p + 1)) k o) q ↔ q = (.inl (some (.int (nI y))), Wm (adv I (p + 2)) k o)) := by
      intro bb z y hz q
      have := (c100 (d := d) (k := k) (o := o) (q := q) hT hA.1 hA.2.1 (show p + 1 < 100000 by omega) (b := bb)).1 y hz
      rw [adv_adv] at this
      exact this
    have hzone0 : ∀ (bb : Bool) (hz : e_zone bb (nx T (p + 1)) = none) (q : pm_Res), (pm_C (d + 5) 100 [.ref 1, .int (if bb = true then 1 else 0)] (Wm (adv I (p + 1)) k o) q ↔ q = (.inr 0, Wm (adv I (p + 1)) (k + 1) o)) := fun bb hz q => (c100 (d := d) (k := k) (o := o) (q := q) hT hA.1 hA.2.1 (show p + 1 < 100000 by omega) (b := bb)).2 hz
    have h103 : ∀ c, c < 100000 → ∀ q, (pm_C (d + 5) 103 [.ref 1, .int (nI c)] (Wm I k o) q ↔ if nx T p = c then q = (.inl (some (.int 1)), Wm (adv I (p + 1)) k o) else q = (.inl (some (.int 0)), Wm I k o)) := fun c hc q => c103 (d := d + 3) hT h.1 h.2.1 (by omega) hc
    have hA2 : RD T (p + 2) K ch (adv I (p + 2)) := h.ad
    have a4 : adv I (p + 1) 1 4 = (if ch = true then 1 else 0) := hA.2.2.2
    have q35 := h103 35 (by omega)
    have q114 := h103 114 (by omega)
    have q117 := h103 117 (by omega)
    have q40 := h103 40 (by omega)
    simp only []
    by_cases n35 : nx T p = 35
    · rw [if_pos n35]
      refine ⟨fun x hx => ?_, fun hx => ?_⟩
      · cases ez : e_zone false (nx T (p + 1)) with
        | none => rw [ez] at hx; cases hx
        | some y =>
          rw [ez] at hx
          injection hx with hx
          subst hx
          refine ⟨_, some (.int (-1)), hA2.em (x := (2, y)), FD.adv.trans FD.em, fun q => ?_⟩
          have hz := hzone false 2 y ez
          rw [show (if false = true then (1 : Int32) else 0) = 0 from rfl] at hz
          rw [hopen2]
          simp (decide := true) only [q98_58, q98_59, q98_61, q98_64, q98_67, q98_68, q98_71, q98_72, q98_73, q98_74, q98_77, q98_80, W_1, W_I, W_mk, W_tk, pm_rv, rf_0_0, rf_0_1, rf_0_2, rf_0_3, rf_0_4, rf_0_7, rf_0_8, rf_1_0, rf_1_2, rf_3_0, rf_3_1, rf_3_6, rf_3_7, rf_3_8, rf_9_0, rf_9_1, rf_10_0, rf_10_1, rf_10_6, rf_10_7, rf_10_8, rf_17_0, rf_17_1, rf_538_2, rf_538_6, rf_538_7, rf_538_9, rf_538_11, rf_538_12, rf_538_18, rf_538_19, rf_538_22, rf_538_23, rf_538_25, rf_538_27, rf_538_28, rf_538_30, rf_538_31, rf_538_32, rf_538_33, rf_538_34, rf_538_35, rf_538_36, ob_0, ob_1, ob_3, ob_9, ob_10, ob_17, ob_538, ar_2, ar_4, ar_5, ar_6, ar_7, ar_8, ar_11, ar_12, ar_13, ar_14, ar_15, ar_16, ar_116, ar_117, ar_539, ar_540, ar_541, ar_542, ar_543, ar_544, ar_545, ar_546, ar_547, ar_548, ar_549, ar_550, ar_551, ar_552, ar_553, ar_554, ar_555, ar_556, ar_557, ar_558, ex_eq, ex_ite, pm_bk_r, pm_bk_t, ol_nil, ol_one, true_and, and_true, false_and, and_false, reduceIte, Nat.reduceEqDiff, up_at, Nat.add_left_cancel_iff, show (35 : Int32) = nI 35 from rfl, q35, n35, hz, show (2 : Int32) = nI 2 from rfl, h80 hA2]
      · cases ez : e_zone false (nx T (p + 1)) with
        | some y => rw [ez] at hx; cases hx
        | none =>
          have hz := hzone0 false ez
          rw [show (if false = true then (1 : Int32) else 0) = 0 from rfl] at hz
          refine ⟨_, FD.adv (p := p + 1), fun q => ?_⟩
          rw [hopen2]
          simp (decide := true) only [q98_58, q98_59, q98_61, q98_64, q98_67, q98_68, q98_71, q98_72, q98_73, q98_74, q98_77, q98_80, W_1, W_I, W_mk, W_tk, pm_rv, rf_0_0, rf_0_1, rf_0_2, rf_0_3, rf_0_4, rf_0_7, rf_0_8, rf_1_0, rf_1_2, rf_3_0, rf_3_1, rf_3_6, rf_3_7, rf_3_8, rf_9_0, rf_9_1, rf_10_0, rf_10_1, rf_10_6, rf_10_7, rf_10_8, rf_17_0, rf_17_1, rf_538_2, rf_538_6, rf_538_7, rf_538_9, rf_538_11, rf_538_12, rf_538_18, rf_538_19, rf_538_22, rf_538_23, rf_538_25, rf_538_27, rf_538_28, rf_538_30, rf_538_31, rf_538_32, rf_538_33, rf_538_34, rf_538_35, rf_538_36, ob_0, ob_1, ob_3, ob_9, ob_10, ob_17, ob_538, ar_2, ar_4, ar_5, ar_6, ar_7, ar_8, ar_11, ar_12, ar_13, ar_14, ar_15, ar_16, ar_116, ar_117, ar_539, ar_540, ar_541, ar_542, ar_543, ar_544, ar_545, ar_546, ar_547, ar_548, ar_549, ar_550, ar_551, ar_552, ar_553, ar_554, ar_555, ar_556, ar_557, ar_558, ex_eq, ex_ite, pm_bk_r, pm_bk_t, ol_nil, ol_one, true_and, and_true, false_and, and_false, reduceIte, Nat.reduceEqDiff, up_at, Nat.add_left_cancel_iff, show (35 : Int32) = nI 35 from rfl, q35, n35, hz]
    · rw [if_neg n35]
      by_cases n114 : nx T p = 114
      · rw [if_pos n114]
        refine ⟨fun x hx => ?_, fun hx => ?_⟩
        · cases ez : e_zone ch (nx T (p + 1)) with
          | none => rw [ez] at hx; cases hx
          | some y =>
            rw [ez] at hx
            injection hx with hx
            subst hx
            refine ⟨_, some (.int (-1)), hA2.em (x := (3, y)), FD.adv.trans FD.em, fun q => ?_⟩
            have hz := hzone ch 3 y ez
            rw [hopen2]
            simp (decide := true) only [q98_58, q98_59, q98_61, q98_64, q98_83, q98_84, q98_86, q98_89, q98_92, q98_93, q98_96, q98_97, q98_98, q98_99, q98_102, q98_105, q98_108, W_1, W_I, W_mk, W_tk, pm_rv, rf_0_0, rf_0_1, rf_0_2, rf_0_3, rf_0_4, rf_0_7, rf_0_8, rf_1_0, rf_1_2, rf_3_0, rf_3_1, rf_3_6, rf_3_7, rf_3_8, rf_9_0, rf_9_1, rf_10_0, rf_10_1, rf_10_6, rf_10_7, rf_10_8, rf_17_0, rf_17_1, rf_538_2, rf_538_6, rf_538_7, rf_538_9, rf_538_11, rf_538_12, rf_538_18, rf_538_19, rf_538_22, rf_538_23, rf_538_25, rf_538_27, rf_538_28, rf_538_30, rf_538_31, rf_538_32, rf_538_33, rf_538_34, rf_538_35, rf_538_36, ob_0, ob_1, ob_3, ob_9, ob_10, ob_17, ob_538, ar_2, ar_4, ar_5, ar_6, ar_7, ar_8, ar_11, ar_12, ar_13, ar_14, ar_15, ar_16, ar_116, ar_117, ar_539, ar_540, ar_541, ar_542, ar_543, ar_544, ar_545, ar_546, ar_547, ar_548, ar_549, ar_550, ar_551, ar_552, ar_553, ar_554, ar_555, ar_556, ar_557, ar_558, ex_eq, ex_ite, pm_bk_r, pm_bk_t, ol_nil, ol_one, true_and, and_true, false_and, and_false, reduceIte, Nat.reduceEqDiff, up_at, Nat.add_left_cancel_iff, show (35 : Int32) = nI 35 from rfl, q35, n35, show (114 : Int32) = nI 114 from rfl, q114, n114, a4, hz, show (3 : Int32) = nI 3 from rfl, h80 hA2]
        · cases ez : e_zone ch (nx T (p + 1)) with
          | some y => rw [ez] at hx; cases hx
          | none =>
            have hz := hzone0 ch ez
            refine ⟨_, FD.adv (p := p + 1), fun q => ?_⟩
            rw [hopen2]
            simp (decide := true) only [q98_58, q98_59, q98_61, q98_64, q98_83, q98_84, q98_86, q98_89, q98_92, q98_93, q98_96, q98_97, q98_98, q98_99, q98_102, q98_105, q98_108, W_1, W_I, W_mk, W_tk, pm_rv, rf_0_0, rf_0_1, rf_0_2, rf_0_3, rf_0_4, rf_0_7, rf_0_8, rf_1_0, rf_1_2, rf_3_0, rf_3_1, rf_3_6, rf_3_7, rf_3_8, rf_9_0, rf_9_1, rf_10_0, rf_10_1, rf_10_6, rf_10_7, rf_10_8, rf_17_0, rf_17_1, rf_538_2, rf_538_6, rf_538_7, rf_538_9, rf_538_11, rf_538_12, rf_538_18, rf_538_19, rf_538_22, rf_538_23, rf_538_25, rf_538_27, rf_538_28, rf_538_30, rf_538_31, rf_538_32, rf_538_33, rf_538_34, rf_538_35, rf_538_36, ob_0, ob_1, ob_3, ob_9, ob_10, ob_17, ob_538, ar_2, ar_4, ar_5, ar_6, ar_7, ar_8, ar_11, ar_12, ar_13, ar_14, ar_15, ar_16, ar_116, ar_117, ar_539, ar_540, ar_541, ar_542, ar_543, ar_544, ar_545, ar_546, ar_547, ar_548, ar_549, ar_550, ar_551, ar_552, ar_553, ar_554, ar_555, ar_556, ar_557, ar_558, ex_eq, ex_ite, pm_bk_r, pm_bk_t, ol_nil, ol_one, true_and, and_true, false_and, and_false, reduceIte, Nat.reduceEqDiff, up_at, Nat.add_left_cancel_iff, show (35 : Int32) = nI 35 from rfl, q35, n35, show (114 : Int32) = nI 114 from rfl, q114, n114, a4, hz]
      · rw [if_neg n114]
        by_cases n117 : nx T p = 117
        · rw [if_pos n117]
          refine ⟨fun x hx => ?_, fun hx => ?_⟩
          · cases ez : e_zone ch (nx T (p + 1)) with
            | none => rw [ez] at hx; cases hx
            | some y =>
              rw [ez] at hx
              injection hx with hx
              subst hx
              refine ⟨_, some (.int (-1)), hA2.em (x := (4, y)), FD.adv.trans FD.em, fun q => ?_⟩
              have hz := hzone ch 4 y ez
              rw [hopen2]
              simp (decide := true) only [q98_58, q98_59, q98_61, q98_64, q98_83, q98_84, q98_86, q98_89, q98_111, q98_112, q98_114, q98_117, q98_120, q98_121, q98_124, q98_125, q98_126, q98_127, q98_130, q98_133, q98_136, W_1, W_I, W_mk, W_tk, pm_rv, rf_0_0, rf_0_1, rf_0_2, rf_0_3, rf_0_4, rf_0_7, rf_0_8, rf_1_0, rf_1_2, rf_3_0, rf_3_1, rf_3_6, rf_3_7, rf_3_8, rf_9_0, rf_9_1, rf_10_0, rf_10_1, rf_10_6, rf_10_7, rf_10_8, rf_17_0, rf_17_1, rf_538_2, rf_538_6, rf_538_7, rf_538_9, rf_538_11, rf_538_12, rf_538_18, rf_538_19, rf_538_22, rf_538_23, rf_538_25, rf_538_27, rf_538_28, rf_538_30, rf_538_31, rf_538_32, rf_538_33, rf_538_34, rf_538_35, rf_538_36, ob_0, ob_1, ob_3, ob_9, ob_10, ob_17, ob_538, ar_2, ar_4, ar_5, ar_6, ar_7, ar_8, ar_11, ar_12, ar_13, ar_14, ar_15, ar_16, ar_116, ar_117, ar_539, ar_540, ar_541, ar_542, ar_543, ar_544, ar_545, ar_546, ar_547, ar_548, ar_549, ar_550, ar_551, ar_552, ar_553, ar_554, ar_555, ar_556, ar_557, ar_558, ex_eq, ex_ite, pm_bk_r, pm_bk_t, ol_nil, ol_one, true_and, and_true, false_and, and_false, reduceIte, Nat.reduceEqDiff, up_at, Nat.add_left_cancel_iff, show (35 : Int32) = nI 35 from rfl, q35, n35, show (114 : Int32) = nI 114 from rfl, q114, n114, show (117 : Int32) = nI 117 from rfl, q117, n117, a4, hz, show (4 : Int32) = nI 4 from rfl, h80 hA2]
          · cases ez : e_zone ch (nx T (p + 1)) with
            | some y => rw [ez] at hx; cases hx
            | none =>
              have hz := hzone0 ch ez
              refine ⟨_, FD.adv (p := p + 1), fun q => ?_⟩
              rw [hopen2]
              simp (decide := true) only [q98_58, q98_59, q98_61, q98_64, q98_83, q98_84, q98_86, q98_89, q98_111, q98_112, q98_114, q98_117, q98_120, q98_121, q98_124, q98_125, q98_126, q98_127, q98_130, q98_133, q98_136, W_1, W_I, W_mk, W_tk, pm_rv, rf_0_0, rf_0_1, rf_0_2, rf_0_3, rf_0_4, rf_0_7, rf_0_8, rf_1_0, rf_1_2, rf_3_0, rf_3_1, rf_3_6, rf_3_7, rf_3_8, rf_9_0, rf_9_1, rf_10_0, rf_10_1, rf_10_6, rf_10_7, rf_10_8, rf_17_0, rf_17_1, rf_538_2, rf_538_6, rf_538_7, rf_538_9, rf_538_11, rf_538_12, rf_538_18, rf_538_19, rf_538_22, rf_538_23, rf_538_25, rf_538_27, rf_538_28, rf_538_30, rf_538_31, rf_538_32, rf_538_33, rf_538_34, rf_538_35, rf_538_36, ob_0, ob_1, ob_3, ob_9, ob_10, ob_17, ob_538, ar_2, ar_4, ar_5, ar_6, ar_7, ar_8, ar_11, ar_12, ar_13, ar_14, ar_15, ar_16, ar_116, ar_117, ar_539, ar_540, ar_541, ar_542, ar_543, ar_544, ar_545, ar_546, ar_547, ar_548, ar_549, ar_550, ar_551, ar_552, ar_553, ar_554, ar_555, ar_556, ar_557, ar_558, ex_eq, ex_ite, pm_bk_r, pm_bk_t, ol_nil, ol_one, true_and, and_true, false_and, and_false, reduceIte, Nat.reduceEqDiff, up_at, Nat.add_left_cancel_iff, show (35 : Int32) = nI 35 from rfl, q35, n35, show (114 : Int32) = nI 114 from rfl, q114, n114, show (117 : Int32) = nI 117 from rfl, q117, n117, a4, hz]
        · rw [if_neg n117]
          have hopen3 : ∀ q, (pm_R (d + 5) 98 22 [some (.ref 1), some (.int (nI b)), some (.int (nI n)), x3, x4] [] (Wm I k o) q ↔ pm_R (d + 5) 98 139 [some (.ref 1), some (.int (nI b)), some (.int (nI n)), some (.int (-1)), x4] [] (Wm I k o) q) := by
            intro q
            rw [hopen2]
            simp (decide := true) only [q98_58, q98_59, q98_61, q98_64, q98_83, q98_84, q98_86, q98_89, q98_111, q98_112, q98_114, q98_117, W_1, W_I, W_mk, W_tk, pm_rv, rf_0_0, rf_0_1, rf_0_2, rf_0_3, rf_0_4, rf_0_7, rf_0_8, rf_1_0, rf_1_2, rf_3_0, rf_3_1, rf_3_6, rf_3_7, rf_3_8, rf_9_0, rf_9_1, rf_10_0, rf_10_1, rf_10_6, rf_10_7, rf_10_8, rf_17_0, rf_17_1, rf_538_2, rf_538_6, rf_538_7, rf_538_9, rf_538_11, rf_538_12, rf_538_18, rf_538_19, rf_538_22, rf_538_23, rf_538_25, rf_538_27, rf_538_28, rf_538_30, rf_538_31, rf_538_32, rf_538_33, rf_538_34, rf_538_35, rf_538_36, ob_0, ob_1, ob_3, ob_9, ob_10, ob_17, ob_538, ar_2, ar_4, ar_5, ar_6, ar_7, ar_8, ar_11, ar_12, ar_13, ar_14, ar_15, ar_16, ar_116, ar_117, ar_539, ar_540, ar_541, ar_542, ar_543, ar_544, ar_545, ar_546, ar_547, ar_548, ar_549, ar_550, ar_551, ar_552, ar_553, ar_554, ar_555, ar_556, ar_557, ar_558, ex_eq, ex_ite, pm_bk_r, pm_bk_t, ol_nil, ol_one, true_and, and_true, false_and, and_false, reduceIte, Nat.reduceEqDiff, up_at, Nat.add_left_cancel_iff, show (35 : Int32) = nI 35 from rfl, q35, n35, show (114 : Int32) = nI 114 from rfl, q114, n114, show (117 : Int32) = nI 117 from rfl, q117, n117]
          by_cases n40 : b < 4 ∧ nx T p = 40
          · rw [if_pos n40]
            have hlt := nx_lt (T := T) (p := p) (by omega)
            have hX' := hX n40.1 (p + 1) K (adv I (p + 1)) hA (by omega) (by omega)
            have eb : (nI b < 4) ↔ True := iff_true_intro (by rw [show (4 : Int32) = nI 4 from rfl, sm_lt (by omega) (by omega)]; omega)
            cases er : rec (p + 1) with
            | none =>
              refine ⟨fun x hx => (by cases hx), fun _ => ?_⟩
              obtain ⟨J, g1, g2⟩ := hX'.2 er
              refine ⟨J, FD.adv.trans g1, fun q => ?_⟩
              rw [hopen3]
              simp (decide := true) only [q98_139, q98_140, q98_141, q98_144, q98_145, q98_147, q98_150, q98_153, q98_154, q98_155, q98_156, q98_157, q98_158, q98_161, q98_162, q98_164, q98_167, W_1, W_I, W_mk, W_tk, pm_rv, rf_0_0, rf_0_1, rf_0_2, rf_0_3, rf_0_4, rf_0_7, rf_0_8, rf_1_0, rf_1_2, rf_3_0, rf_3_1, rf_3_6, rf_3_7, rf_3_8, rf_9_0, rf_9_1, rf_10_0, rf_10_1, rf_10_6, rf_10_7, rf_10_8, rf_17_0, rf_17_1, rf_538_2, rf_538_6, rf_538_7, rf_538_9, rf_538_11, rf_538_12, rf_538_18, rf_538_19, rf_538_22, rf_538_23, rf_538_25, rf_538_27, rf_538_28, rf_538_30, rf_538_31, rf_538_32, rf_538_33, rf_538_34, rf_538_35, rf_538_36, ob_0, ob_1, ob_3, ob_9, ob_10, ob_17, ob_538, ar_2, ar_4, ar_5, ar_6, ar_7, ar_8, ar_11, ar_12, ar_13, ar_14, ar_15, ar_16, ar_116, ar_117, ar_539, ar_540, ar_541, ar_542, ar_543, ar_544, ar_545, ar_546, ar_547, ar_548, ar_549, ar_550, ar_551, ar_552, ar_553, ar_554, ar_555, ar_556, ar_557, ar_558, ex_eq, ex_ite, pm_bk_r, pm_bk_t, ol_nil, ol_one, true_and, and_true, false_and, and_false, reduceIte, Nat.reduceEqDiff, up_at, Nat.add_left_cancel_iff, eb, show (40 : Int32) = nI 40 from rfl, q40, n40, sm_s, g2]
            | some y =>
              obtain ⟨J, g1, g2, g3⟩ := hX'.1 y er
              have hg := hrec _ _ er
              have h102 : ∀ q, (pm_C (d + 5) 102 [.ref 1, .int (nI 41)] (Wm J k o) q ↔ if nx T y.1 = 41 then q = (.inl none, Wm (adv J (y.1 + 1)) k o) else q = (.inr 0, Wm J (k + 1) o)) := fun q => c102 (d := d + 3) hT g1.1 g1.2.1 (by have := hg.2.1; omega) (by omega)
              obtain ⟨p', C⟩ := y
              refine ⟨fun x hx => ?_, fun hx => ?_⟩
              · simp only [] at hx
                split at hx
                · rename_i e41
                  injection hx with hx
                  subst hx
                  refine ⟨_, some (.int (-1)), g1.ad, (FD.adv.trans g2).trans FD.adv, fun q => ?_⟩
                  rw [hopen3]
                  simp (decide := true) only [q98_139, q98_140, q98_141, q98_144, q98_145, q98_147, q98_150, q98_153, q98_154, q98_155, q98_156, q98_157, q98_158, q98_161, q98_162, q98_164, q98_167, W_1, W_I, W_mk, W_tk, pm_rv, rf_0_0, rf_0_1, rf_0_2, rf_0_3, rf_0_4, rf_0_7, rf_0_8, rf_1_0, rf_1_2, rf_3_0, rf_3_1, rf_3_6, rf_3_7, rf_3_8, rf_9_0, rf_9_1, rf_10_0, rf_10_1, rf_10_6, rf_10_7, rf_10_8, rf_17_0, rf_17_1, rf_538_2, rf_538_6, rf_538_7, rf_538_9, rf_538_11, rf_538_12, rf_538_18, rf_538_19, rf_538_22, rf_538_23, rf_538_25, rf_538_27, rf_538_28, rf_538_30, rf_538_31, rf_538_32, rf_538_33, rf_538_34, rf_538_35, rf_538_36, ob_0, ob_1, ob_3, ob_9, ob_10, ob_17, ob_538, ar_2, ar_4, ar_5, ar_6, ar_7, ar_8, ar_11, ar_12, ar_13, ar_14, ar_15, ar_16, ar_116, ar_117, ar_539, ar_540, ar_541, ar_542, ar_543, ar_544, ar_545, ar_546, ar_547, ar_548, ar_549, ar_550, ar_551, ar_552, ar_553, ar_554, ar_555, ar_556, ar_557, ar_558, ex_eq, ex_ite, pm_bk_r, pm_bk_t, ol_nil, ol_one, true_and, and_true, false_and, and_false, reduceIte, Nat.reduceEqDiff, up_at, Nat.add_left_cancel_iff, eb, show (40 : Int32) = nI 40 from rfl, q40, n40, sm_s, g3, show (41 : Int32) = nI 41 from rfl, h102, e41]
                · cases hx
              · simp only [] at hx
                split at hx
                · cases hx
                · rename_i e41
                  refine ⟨J, FD.adv.trans g2, fun q => ?_⟩
                  rw [hopen3]
                  simp (decide := true) only [q98_139, q98_140, q98_141, q98_144, q98_145, q98_147, q98_150, q98_153, q98_154, q98_155, q98_156, q98_157, q98_158, q98_161, q98_162, q98_164, q98_167, W_1, W_I, W_mk, W_tk, pm_rv, rf_0_0, rf_0_1, rf_0_2, rf_0_3, rf_0_4, rf_0_7, rf_0_8, rf_1_0, rf_1_2, rf_3_0, rf_3_1, rf_3_6, rf_3_7, rf_3_8, rf_9_0, rf_9_1, rf_10_0, rf_10_1, rf_10_6, rf_10_7, rf_10_8, rf_17_0, rf_17_1, rf_538_2, rf_538_6, rf_538_7, rf_538_9, rf_538_11, rf_538_12, rf_538_18, rf_538_19, rf_538_22, rf_538_23, rf_538_25, rf_538_27, rf_538_28, rf_538_30, rf_538_31, rf_538_32, rf_538_33, rf_538_34, rf_538_35, rf_538_36, ob_0, ob_1, ob_3, ob_9, ob_10, ob_17, ob_538, ar_2, ar_4, ar_5, ar_6, ar_7, ar_8, ar_11, ar_12, ar_13, ar_14, ar_15, ar_16, ar_116, ar_117, ar_539, ar_540, ar_541, ar_542, ar_543, ar_544, ar_545, ar_546, ar_547, ar_548, ar_549, ar_550, ar_551, ar_552, ar_553, ar_554, ar_555, ar_556, ar_557, ar_558, ex_eq, ex_ite, pm_bk_r, pm_bk_t, ol_nil, ol_one, true_and, and_true, false_and, and_false, reduceIte, Nat.reduceEqDiff, up_at, Nat.add_left_cancel_iff, eb, show (40 : Int32) = nI 40 from rfl, q40, n40, sm_s, g3, show (41 : Int32) = nI 41 from rfl, h102, e41]
          · rw [if_neg n40]
            have hopen4 : ∀ q, (pm_R (d + 5) 98 22 [some (.ref 1), some (.int (nI b)), some (.int (nI n)), x3, x4] [] (Wm I k o) q ↔ pm_R (d + 5) 98 170 [some (.ref 1), some (.int (nI b)), some (.int (nI n)), some (.int (-1)), x4] [] (Wm I k o) q) := by
              intro q
              rw [hopen3]
              have eb : (nI b < 4) ↔ b < 4 := by rw [show (4 : Int32) = nI 4 from rfl, sm_lt (by omega) (by omega)]
              by_cases b4 : b < 4
              · have n40' : ¬ nx T p = 40 := fun q => n40 ⟨b4, q⟩
                simp (decide := true) only [q98_139, q98_140, q98_141, q98_144, q98_145, q98_147, q98_150, W_1, W_I, W_mk, W_tk, pm_rv, rf_0_0, rf_0_1, rf_0_2, rf_0_3, rf_0_4, rf_0_7, rf_0_8, rf_1_0, rf_1_2, rf_3_0, rf_3_1, rf_3_6, rf_3_7, rf_3_8, rf_9_0, rf_9_1, rf_10_0, rf_10_1, rf_10_6, rf_10_7, rf_10_8, rf_17_0, rf_17_1, rf_538_2, rf_538_6, rf_538_7, rf_538_9, rf_538_11, rf_538_12, rf_538_18, rf_538_19, rf_538_22, rf_538_23, rf_538_25, rf_538_27, rf_538_28, rf_538_30, rf_538_31, rf_538_32, rf_538_33, rf_538_34, rf_538_35, rf_538_36, ob_0, ob_1, ob_3, ob_9, ob_10, ob_17, ob_538, ar_2, ar_4, ar_5, ar_6, ar_7, ar_8, ar_11, ar_12, ar_13, ar_14, ar_15, ar_16, ar_116, ar_117, ar_539, ar_540, ar_541, ar_542, ar_543, ar_544, ar_545, ar_546, ar_547, ar_548, ar_549, ar_550, ar_551, ar_552, ar_553, ar_554, ar_555, ar_556, ar_557, ar_558, ex_eq, ex_ite, pm_bk_r, pm_bk_t, ol_nil, ol_one, true_and, and_true, false_and, and_false, reduceIte, Nat.reduceEqDiff, up_at, Nat.add_left_cancel_iff, eb, b4, show (40 : Int32) = nI 40 from rfl, q40, n40']
              · simp (decide := true) only [q98_139, q98_140, q98_141, W_1, W_I, W_mk, W_tk, pm_rv, rf_0_0, rf_0_1, rf_0_2, rf_0_3, rf_0_4, rf_0_7, rf_0_8, rf_1_0, rf_1_2, rf_3_0, rf_3_1, rf_3_6, rf_3_7, rf_3_8, rf_9_0, rf_9_1, rf_10_0, rf_10_1, rf_10_6, rf_10_7, rf_10_8, rf_17_0, rf_17_1, rf_538_2, rf_538_6, rf_538_7, rf_538_9, rf_538_11, rf_538_12, rf_538_18, rf_538_19, rf_538_22, rf_538_23, rf_538_25, rf_538_27, rf_538_28, rf_538_30, rf_538_31, rf_538_32, rf_538_33, rf_538_34, rf_538_35, rf_538_36, ob_0, ob_1, ob_3, ob_9, ob_10, ob_17, ob_538, ar_2, ar_4, ar_5, ar_6, ar_7, ar_8, ar_11, ar_12, ar_13, ar_14, ar_15, ar_16, ar_116, ar_117, ar_539, ar_540, ar_541, ar_542, ar_543, ar_544, ar_545, ar_546, ar_547, ar_548, ar_549, ar_550, ar_551, ar_552, ar_553, ar_554, ar_555, ar_556, ar_557, ar_558, ex_eq, ex_ite, pm_bk_r, pm_bk_t, ol_nil, ol_one, true_and, and_true, false_and, and_false, reduceIte, Nat.reduceEqDiff, up_at, Nat.add_left_cancel_iff, eb, b4]
            have h99 := fun q => c99 (d := d + 3) (k := k) (o := o) (q := q) hT h.1 h.2.1 (show p < 1000 by omega)
            cases en : e_num T p with
            | none =>
              refine ⟨fun x hx => (by cases hx), fun _ => ⟨I, FD.refl, fun q => ?_⟩⟩
              have h99' := fun q => (h99 q).2 en
              rw [hopen4]
              simp (decide := true) only [q98_170, q98_171, q98_174, q98_175, q98_176, q98_179, W_1, W_I, W_mk, W_tk, pm_rv, rf_0_0, rf_0_1, rf_0_2, rf_0_3, rf_0_4, rf_0_7, rf_0_8, rf_1_0, rf_1_2, rf_3_0, rf_3_1, rf_3_6, rf_3_7, rf_3_8, rf_9_0, rf_9_1, rf_10_0, rf_10_1, rf_10_6, rf_10_7, rf_10_8, rf_17_0, rf_17_1, rf_538_2, rf_538_6, rf_538_7, rf_538_9, rf_538_11, rf_538_12, rf_538_18, rf_538_19, rf_538_22, rf_538_23, rf_538_25, rf_538_27, rf_538_28, rf_538_30, rf_538_31, rf_538_32, rf_538_33, rf_538_34, rf_538_35, rf_538_36, ob_0, ob_1, ob_3, ob_9, ob_10, ob_17, ob_538, ar_2, ar_4, ar_5, ar_6, ar_7, ar_8, ar_11, ar_12, ar_13, ar_14, ar_15, ar_16, ar_116, ar_117, ar_539, ar_540, ar_541, ar_542, ar_543, ar_544, ar_545, ar_546, ar_547, ar_548, ar_549, ar_550, ar_551, ar_552, ar_553, ar_554, ar_555, ar_556, ar_557, ar_558, ex_eq, ex_ite, pm_bk_r, pm_bk_t, ol_nil, ol_one, true_and, and_true, false_and, and_false, reduceIte, Nat.reduceEqDiff, up_at, Nat.add_left_cancel_iff, h99']
            | some y =>
              refine ⟨fun x hx => ?_, fun hx => by cases hx⟩
              injection hx with hx
              subst hx
              have h99' := fun q => (h99 q).1 y en
              have hA3 : RD T y.1 K ch (adv I y.1) := h.ad
              refine ⟨_, some (.int (-1)), hA3.em (x := (0, y.2)), FD.adv.trans FD.em, fun q => ?_⟩
              have h80' : ∀ q, (pm_C (d + 4 + 1) 80 [.ref 3, .int 0, .int (nI y.2)] (Wm (adv I y.1) k o) q ↔ q = (.inl none, Wm (emI K (0, y.2) (adv I y.1)) k o)) := h80 hA3 0 y.2
              rw [hopen4]
              simp (decide := true) only [q98_170, q98_171, q98_174, q98_175, q98_176, q98_179, W_1, W_I, W_mk, W_tk, pm_rv, rf_0_0, rf_0_1, rf_0_2, rf_0_3, rf_0_4, rf_0_7, rf_0_8, rf_1_0, rf_1_2, rf_3_0, rf_3_1, rf_3_6, rf_3_7, rf_3_8, rf_9_0, rf_9_1, rf_10_0, rf_10_1, rf_10_6, rf_10_7, rf_10_8, rf_17_0, rf_17_1, rf_538_2, rf_538_6, rf_538_7, rf_538_9, rf_538_11, rf_538_12, rf_538_18, rf_538_19, rf_538_22, rf_538_23, rf_538_25, rf_538_27, rf_538_28, rf_538_30, rf_538_31, rf_538_32, rf_538_33, rf_538_34, rf_538_35, rf_538_36, ob_0, ob_1, ob_3, ob_9, ob_10, ob_17, ob_538, ar_2, ar_4, ar_5, ar_6, ar_7, ar_8, ar_11, ar_12, ar_13, ar_14, ar_15, ar_16, ar_116, ar_117, ar_539, ar_540, ar_541, ar_542, ar_543, ar_544, ar_545, ar_546, ar_547, ar_548, ar_549, ar_550, ar_551, ar_552, ar_553, ar_554, ar_555, ar_556, ar_557, ar_558, ex_eq, ex_ite, pm_bk_r, pm_bk_t, ol_nil, ol_one, true_and, and_true, false_and, and_false, reduceIte, Nat.reduceEqDiff, up_at, Nat.add_left_cancel_iff, h99', h80']
/-- a unit -/
theorem c98 {T : List Nat} (hT : TX T) {ch : Bool} {b : Nat} (hb : b ≤ 4) {rec : Nat → Option (Nat × List (Nat × Nat))} (hrec : ∀ p x, rec p = some x → e_good T p x) (hX : b < 4 → EX k o T ch (fun M q => pm_C (d + 5) 97 [.ref 1, .int 0, .int (nI (b + 1))] M q) rec) : EX k o T ch (fun M q => pm_C (d + 6) 98 [.ref 1, .int (nI b)] M q) (e_unit T ch rec b) := by
  intro p K I h hK hp
  have h240 := hT.1
  have hn := e_nots_le T 4 p
  have hp2 : p + e_nots T 4 p ≤ T.length := by
    rcases Nat.eq_zero_or_pos (e_nots T 4 p) with e | e
    · omega
    · have := hn.2.2 (e_nots T 4 p - 1) (by omega)
      have := nx_lt (T := T) (p := p + (e_nots T 4 p - 1)) (by omega)
      omega
  have hopen : ∀ q, (pm_C (d + 6) 98 [.ref 1, .int (nI b)] (Wm I k o) q ↔ pm_R (d + 5) 98 22 [some (.ref 1), some (.int (nI b)), some (.int (nI (e_nots T 4 p))), none, none] [] (Wm (adv I (p + e_nots T 4 p)) k o) q) := by
    intro q
    have h1 := c98_n (d := d + 3) (k := k) (o := o) (q := q) (x1 := some (.int (nI b))) (x3 := none) (x4 := none) hT 4 0 p I rfl h.1 h.2.1 hp
    rw [Nat.zero_add] at h1
    rw [n98, ← h1]
    simp only [q98_0, q98_1]
    exact Iff.rfl
  have hA : RD T (p + e_nots T 4 p) K ch (adv I (p + e_nots T 4 p)) := h.ad
  have hc := c98_c (d := d) (k := k) (o := o) (n := e_nots T 4 p) (x3 := none) (x4 := none) hT hb hn.1 hrec hX hA (by omega) hp2
  unfold e_unit
  cases ec : e_core T ch rec b (p + e_nots T 4 p) with
  | none =>
    refine ⟨fun x hx => (by cases hx), fun _ => ?_⟩
    obtain ⟨J, g1, g2⟩ := hc.2 ec
    exact ⟨J, FD.adv.trans g1, fun q => (hopen q).trans (g2 q)⟩
  | some y =>
    refine ⟨fun x hx => ?_, fun hx => (by cases hx)⟩
    injection hx with hx
    subst hx
    obtain ⟨J, z3, g1, g2, g3⟩ := hc.1 y ec
    have hg := e_core_ok hrec ec
    obtain ⟨J', f1, f2, f3⟩ := c98_e (d := d + 4) (k := k) (o := o) (x1 := some (.int (nI b))) (x3 := z3) hn.1 (e_nots T 4 p) 0 y.1 (K ++ y.2) J (by omega) g1 (by have := hg.2.2.1; have := hg.2.1; simp; omega)
    refine ⟨J', by rw [← List.append_assoc]; exact f1, (FD.adv.trans g2).trans f2, fun q => ?_⟩
    have f3' := f3 q
    rw [show nI 0 = (0 : Int32) from rfl] at f3'
    show pm_C (d + 6) 98 _ _ q ↔ _
    rw [hopen, g3]
    simp only [q98_182, q98_183, f3']
theorem ixI_neg {S : List Nat} (hl : S.length < 1000) {c : Nat} : (ixI (e_ix S c) < 0) ↔ e_ix S c = none := by
  cases e : e_ix S c with
  | none => simp (decide := true) [ixI]
  | some i =>
    have := (e_ix_lt e).1
    simp only [ixI]
    exact iff_of_false (sm_neg (by omega)) (by simp)
theorem tabL : ∀ w, w < 7 → pm_tab 10030 w = nI (e_lv w) ∧ pm_tab 10040 w = nI (e_cd w) := by decide +kernel
theorem sta_LC {w : Nat} (h : w < 7) : (pm_sta 10030 0 (nI w) ↔ True) ∧ (pm_sta 10040 0 (nI w) ↔ True) := by
  refine ⟨iff_true_intro ⟨Or.inr ⟨rfl, Or.inl rfl⟩, (sm_in (by omega)).mpr ?_⟩, iff_true_intro ⟨Or.inr ⟨rfl, Or.inr rfl⟩, (sm_in (by omega)).mpr ?_⟩⟩
  · exact Nat.lt_of_lt_of_le h (by decide)
  · exact Nat.lt_of_lt_of_le h (by decide)
/-- the operators of one level -/
theorem c97_l {T : List Nat} (hT : TX T) {ch : Bool} {l b : Nat} (hl : l < 5) {rec : Nat → Option (Nat × List (Nat × Nat))} (hrec : ∀ p x, rec p = some x → e_good T p x) (hX : EX k o T ch (fun M q => pm_C (d + 5) 97 [.ref 1, .int (nI (l + 1)), .int (nI b)] M q) rec) {K0 : List (Nat × Nat)} : ∀ n i p C (I : Nat → Nat → Int32) (y4 : Option Value), i + n = 240 → RD T p (K0 ++ C) ch I → (K0 ++ C).length ≤ p → p ≤ T.length →
    (∀ x, e_ops T l rec n p C = some x → ∃ J, RD T x.1 (K0 ++ x.2) ch J ∧ FD I J ∧ ∀ q, (pm_R (d + 5) 97 21 [some (.ref 1), some (.int (nI l)), some (.int (nI b)), some (.int (nI i)), y4] [] (Wm I k o) q ↔ q = (.inl none, Wm J k o))) ∧
    (e_ops T l rec n p C = none → ∃ J, FD I J ∧ ∀ q, (pm_R (d + 5) 97 21 [some (.ref 1), some (.int (nI l)), some (.int (nI b)), some (.int (nI i)), y4] [] (Wm I k o) q ↔ q = (.inr 0, Wm J (k + 1) o))) := by
  have h240 := hT.1
  intro n
  induction n with
  | zero =>
    intro i p C I y4 hi h hK hp
    refine ⟨fun x hx => ?_, fun hx => (by cases hx)⟩
    injection hx with hx
    subst hx
    refine ⟨I, h, FD.refl, fun q => ?_⟩
    obtain rfl : i = 240 := by omega
    rw [q97_21]
    simp (decide := true) only [q97_22, q97_25, q97_99, ex_eq, ex_ite, pm_bk_r, pm_bk_t, ol_nil, ol_one, true_and, and_true, false_and, and_false, reduceIte, Nat.reduceEqDiff, up_at, Nat.add_left_cancel_iff]
  | succ n ih =>
    intro i p C I y4 hi h hK hp
    have h126 := nx_126 hT p
    have ei : (nI i < 240) ↔ True := iff_true_intro (by rw [show (240 : Int32) = nI 240 from rfl, sm_lt (by omega) (by omega)]; omega)
    have hopen : ∀ q, (pm_R (d + 5) 97 21 [some (.ref 1), some (.int (nI l)), some (.int (nI b)), some (.int (nI i)), y4] [] (Wm I k o) q ↔ pm_R (d + 5) 97 39 [some (.ref 1), some (.int (nI l)), some (.int (nI b)), some (.int (nI i)), some (.int (ixI (e_ix e_O (nx T p))))] [] (Wm I k o) q) := by
      intro q
      rw [q97_21]
      simp (decide := true) only [q97_22, q97_25, q97_28, q97_30, q97_31, q97_34, q97_37, W_1, W_I, W_mk, W_tk, pm_rv, rf_0_0, rf_0_1, rf_0_2, rf_0_3, rf_0_4, rf_0_7, rf_0_8, rf_1_0, rf_1_2, rf_3_0, rf_3_1, rf_3_6, rf_3_7, rf_3_8, rf_9_0, rf_9_1, rf_10_0, rf_10_1, rf_10_6, rf_10_7, rf_10_8, rf_17_0, rf_17_1, rf_538_2, rf_538_6, rf_538_7, rf_538_9, rf_538_11, rf_538_12, rf_538_18, rf_538_19, rf_538_22, rf_538_23, rf_538_25, rf_538_27, rf_538_28, rf_538_30, rf_538_31, rf_538_32, rf_538_33, rf_538_34, rf_538_35, rf_538_36, ob_0, ob_1, ob_3, ob_9, ob_10, ob_17, ob_538, ar_2, ar_4, ar_5, ar_6, ar_7, ar_8, ar_11, ar_12, ar_13, ar_14, ar_15, ar_16, ar_116, ar_117, ar_539, ar_540, ar_541, ar_542, ar_543, ar_544, ar_545, ar_546, ar_547, ar_548, ar_549, ar_550, ar_551, ar_552, ar_553, ar_554, ar_555, ar_556, ar_557, ar_558, ex_eq, ex_ite, pm_bk_r, pm_bk_t, ol_nil, ol_one, true_and, and_true, false_and, and_false, reduceIte, Nat.reduceEqDiff, up_at, Nat.add_left_cancel_iff, ei, c104 (d := d + 4) hT h.1 h.2.1 (show p < 100000 by omega), c122O (d := d + 1) (show nx T p < 128 by omega), pm_str, true_or, or_true]
    have hneg := ixI_neg (S := e_O) (c := nx T p) (by decide)
    unfold e_ops
    cases ew : e_ix e_O (nx T p) with
    | none =>
      refine ⟨fun x hx => ?_, fun hx => (by cases hx)⟩
      injection hx with hx
      subst hx
      refine ⟨I, h, FD.refl, fun q => ?_⟩
      rw [hopen, ew]
      rw [ew] at hneg
      simp (decide := true) only [q97_39, q97_41, q97_54, ex_eq, ex_ite, pm_bk_r, pm_bk_t, ol_nil, ol_one, true_and, and_true, false_and, and_false, reduceIte, Nat.reduceEqDiff, up_at, Nat.add_left_cancel_iff, hneg]
    | some w =>
      have hw : w < 7 := (e_ix_lt ew).1
      have hlt := nx_lt (T := T) (p := p) (fun e => by rw [e] at ew; cases ew)
      have hlv : e_lv w < 7 := by
        have : ∀ w, w < 7 → e_lv w < 7 := by decide
        exact this w hw
      have hopen2 : ∀ q, (pm_R (d + 5) 97 21 [some (.ref 1), some (.int (nI l)), some (.int (nI b)), some (.int (nI i)), y4] [] (Wm I k o) q ↔ if e_lv w = l then pm_R (d + 5) 97 55 [some (.ref 1), some (.int (nI l)), some (.int (nI b)), some (.int (nI i)), some (.int (nI w))] [] (Wm I k o) q else q = (.inl none, Wm I k o)) := by
        intro q
        rw [hopen, ew]
        simp (decide := true) only [q97_39, q97_41, q97_44, q97_47, q97_49, q97_50, q97_51, q97_54, ex_eq, ex_ite, pm_bk_r, pm_bk_t, ol_nil, ol_one, true_and, and_true, false_and, and_false, reduceIte, Nat.reduceEqDiff, up_at, Nat.add_left_cancel_iff, ixI, show (nI w < 0) ↔ False from iff_false_intro (sm_neg (by omega)), (sta_LC hw).1, sm_cl (show w < 2147483648 by omega), (tabL w hw).1, sm_inj (show e_lv w < 2147483648 by omega) (show l < 2147483648 by omega)]
      simp only []
      by_cases el : e_lv w = l
      · rw [if_pos el]
        have hA : RD T (p + 1) (K0 ++ C) ch (adv I (p + 1)) := h.ad
        have hX' := hX (p + 1) (K0 ++ C) (adv I (p + 1)) hA (by omega) (by omega)
        have hopen3 : ∀ q, (pm_R (d + 5) 97 21 [some (.ref 1), some (.int (nI l)), some (.int (nI b)), some (.int (nI i)), y4] [] (Wm I k o) q ↔ ∃ r, pm_C (d + 5) 97 [.ref 1, .int (nI (l + 1)), .int (nI b)] (Wm (adv I (p + 1)) k o) r ∧ pm_bk (fun v M' => pm_R (d + 5) 97 73 [some (.ref 1), some (.int (nI l)), some (.int (nI b)), some (.int (nI i)), some (.int (nI w))] (v.toList ++ []) M' q) (fun k M' => q = (.inr k, M')) r) := by
          intro q
          rw [hopen2, if_pos el]
          simp (decide := true) only [q97_55, q97_56, q97_57, q97_60, q97_61, q97_62, q97_65, q97_66, q97_67, q97_68, q97_69, q97_70, W_1, W_I, W_mk, W_tk, pm_rv, rf_0_0, rf_0_1, rf_0_2, rf_0_3, rf_0_4, rf_0_7, rf_0_8, rf_1_0, rf_1_2, rf_3_0, rf_3_1, rf_3_6, rf_3_7, rf_3_8, rf_9_0, rf_9_1, rf_10_0, rf_10_1, rf_10_6, rf_10_7, rf_10_8, rf_17_0, rf_17_1, rf_538_2, rf_538_6, rf_538_7, rf_538_9, rf_538_11, rf_538_12, rf_538_18, rf_538_19, rf_538_22, rf_538_23, rf_538_25, rf_538_27, rf_538_28, rf_538_30, rf_538_31, rf_538_32, rf_538_33, rf_538_34, rf_538_35, rf_538_36, ob_0, ob_1, ob_3, ob_9, ob_10, ob_17, ob_538, ar_2, ar_4, ar_5, ar_6, ar_7, ar_8, ar_11, ar_12, ar_13, ar_14, ar_15, ar_16, ar_116, ar_117, ar_539, ar_540, ar_541, ar_542, ar_543, ar_544, ar_545, ar_546, ar_547, ar_548, ar_549, ar_550, ar_551, ar_552, ar_553, ar_554, ar_555, ar_556, ar_557, ar_558, ex_eq, ex_ite, pm_bk_r, pm_bk_t, ol_nil, ol_one, true_and, and_true, false_and, and_false, reduceIte, Nat.reduceEqDiff, up_at, Nat.add_left_cancel_iff, h.2.1, sm_s]
          exact Iff.rfl
        cases er : rec (p + 1) with
        | none =>
          refine ⟨fun x hx => (by cases hx), fun _ => ?_⟩
          obtain ⟨J, g1, g2⟩ := hX'.2 er
          refine ⟨J, FD.adv.trans g1, fun q => ?_⟩
          rw [hopen3]
          simp only [g2, ex_eq, ex_ite, pm_bk_r, pm_bk_t, ol_nil, ol_one, true_and, and_true, false_and, and_false, reduceIte, Nat.reduceEqDiff, up_at, Nat.add_left_cancel_iff]
        | some y =>
          obtain ⟨p', C'⟩ := y
          obtain ⟨J, g1, g2, g3⟩ := hX'.1 _ er
          have hg := hrec _ _ er
          have hg1 : p + 1 < p' := hg.1
          have hg2 : p' ≤ T.length := hg.2.1
          have hg3 : C'.length + (p + 1) ≤ p' := hg.2.2.1
          have g1' := g1.em (x := (e_cd w, 0))
          have hlen : (K0 ++ C ++ C').length = (K0 ++ C).length + C'.length := by rw [List.length_append]
          have h80 : ∀ q, (pm_C (d + 5) 80 [.ref 3, .int (nI (e_cd w)), .int 0] (Wm J k o) q ↔ q = (.inl none, Wm (emI (K0 ++ C ++ C') (e_cd w, 0) J) k o)) := fun q => c80 (d := d + 4) (z := e_cd w) (a := 0) g1.2.2.1 (by show (K0 ++ C ++ C').length < 100000; omega)
          have e2 : (nI l = 2) ↔ l = 2 := by rw [show (2 : Int32) = nI 2 from rfl, sm_inj (by omega) (by omega)]
          have hopen4 : ∀ q, (pm_R (d + 5) 97 21 [some (.ref 1), some (.int (nI l)), some (.int (nI b)), some (.int (nI i)), y4] [] (Wm I k o) q ↔ if l = 2 then q = (.inl none, Wm (emI (K0 ++ C ++ C') (e_cd w, 0) J) k o) else pm_R (d + 5) 97 21 [some (.ref 1), some (.int (nI l)), some (.int (nI b)), some (.int (nI (i + 1))), some (.int (nI w))] [] (Wm (emI (K0 ++ C ++ C') (e_cd w, 0) J) k o) q) := by
            intro q
            rw [hopen3]
            simp (decide := true) only [g3, ex_eq, ex_ite, pm_bk_r, pm_bk_t, ol_nil, ol_one, true_and, and_true, false_and, and_false, reduceIte, Nat.reduceEqDiff, up_at, Nat.add_left_cancel_iff, q97_73, q97_74, q97_77, q97_80, q97_82, q97_83, q97_84, q97_87, q97_88, q97_89, q97_92, q97_93, q97_96, W_1, W_I, W_mk, W_tk, pm_rv, rf_0_0, rf_0_1, rf_0_2, rf_0_3, rf_0_4, rf_0_7, rf_0_8, rf_1_0, rf_1_2, rf_3_0, rf_3_1, rf_3_6, rf_3_7, rf_3_8, rf_9_0, rf_9_1, rf_10_0, rf_10_1, rf_10_6, rf_10_7, rf_10_8, rf_17_0, rf_17_1, rf_538_2, rf_538_6, rf_538_7, rf_538_9, rf_538_11, rf_538_12, rf_538_18, rf_538_19, rf_538_22, rf_538_23, rf_538_25, rf_538_27, rf_538_28, rf_538_30, rf_538_31, rf_538_32, rf_538_33, rf_538_34, rf_538_35, rf_538_36, ob_0, ob_1, ob_3, ob_9, ob_10, ob_17, ob_538, ar_2, ar_4, ar_5, ar_6, ar_7, ar_8, ar_11, ar_12, ar_13, ar_14, ar_15, ar_16, ar_116, ar_117, ar_539, ar_540, ar_541, ar_542, ar_543, ar_544, ar_545, ar_546, ar_547, ar_548, ar_549, ar_550, ar_551, ar_552, ar_553, ar_554, ar_555, ar_556, ar_557, ar_558, (sta_LC hw).2, sm_cl (show w < 2147483648 by omega), (tabL w hw).2, h80, e2, sm_s]
          have ea : K0 ++ C ++ C' ++ [(e_cd w, 0)] = K0 ++ (C ++ C' ++ [(e_cd w, 0)]) := by simp only [List.append_assoc]
          have g1'' : RD T p' (K0 ++ (C ++ C' ++ [(e_cd w, 0)])) ch (emI (K0 ++ C ++ C') (e_cd w, 0) J) := by rw [← ea]; exact g1'
          have fJ : FD I (emI (K0 ++ C ++ C') (e_cd w, 0) J) := (FD.adv.trans g2).trans FD.em
          simp only []
          by_cases l2 : l = 2
          · rw [if_pos l2]
            refine ⟨fun x hx => ?_, fun hx => (by cases hx)⟩
            injection hx with hx
            subst hx
            refine ⟨_, g1'', fJ, fun q => ?_⟩
            rw [hopen4, if_pos l2]
          · rw [if_neg l2]
            have hr := ih (i + 1) p' (C ++ C' ++ [(e_cd w, 0)]) _ (some (.int (nI w))) (by omega) g1'' (by rw [← ea, List.length_append, hlen]; show (K0 ++ C).length + C'.length + 1 ≤ p'; omega) hg2
            refine ⟨fun x hx => ?_, fun hx => ?_⟩
            · obtain ⟨J', f1, f2, f3⟩ := hr.1 x hx
              refine ⟨J', f1, fJ.trans f2, fun q => ?_⟩
              rw [hopen4, if_neg l2, f3]
            · obtain ⟨J', f1, f2⟩ := hr.2 hx
              refine ⟨J', fJ.trans f1, fun q => ?_⟩
              rw [hopen4, if_neg l2, f2]
      · rw [if_neg el]
        refine ⟨fun x hx => ?_, fun hx => (by cases hx)⟩
        injection hx with hx
        subst hx
        refine ⟨I, h, FD.refl, fun q => ?_⟩
        rw [hopen2, if_neg el]
theorem c97 {T : List Nat} (hT : TX T) {ch : Bool} : ∀ f l b d, l ≤ 5 → b ≤ 4 → 6 * (4 - b) + (6 - l) ≤ f → EX k o T ch (fun M q => pm_C (d + 2 * f + 5) 97 [.ref 1, .int (nI l), .int (nI b)] M q) (e_expr T ch f l b) := by
  intro f
  induction f with
  | zero => intro l b d hl hb hf; omega
  | succ f ih =>
    intro l b d hl hb hf p K I h hK hp
    by_cases l5 : 5 ≤ l
    · obtain rfl : l = 5 := by omega
      have hu := c98 (d := d + 2 * f) (k := k) (o := o) hT hb (rec := fun p => e_expr T ch f 0 (b + 1) p) (fun p x h => e_expr_ok _ _ _ _ _ h) (fun b4 => ih 0 (b + 1) d (by omega) (by omega) (by omega)) p K I h hK hp
      have ee : e_expr T ch (f + 1) 5 b p = e_unit T ch (fun p => e_expr T ch f 0 (b + 1) p) b p := rfl
      rw [ee]
      have hopen : ∀ q, (pm_C (d + 2 * (f + 1) + 5) 97 [.ref 1, .int (nI 5), .int (nI b)] (Wm I k o) q ↔ ∃ r, pm_C (d + 2 * f + 6) 98 [.ref 1, .int (nI b)] (Wm I k o) r ∧ pm_bk (fun v M' => pm_R (d + 2 * f + 6) 97 10 [some (.ref 1), some (.int (nI 5)), some (.int (nI b)), none, none] (v.toList ++ []) M' q) (fun k M' => q = (.inr k, M')) r) := by
        intro q
        rw [show d + 2 * (f + 1) + 5 = (d + 2 * f + 6) + 1 by omega, n97]
        simp (decide := true) only [q97_0, q97_1, q97_2, q97_5, q97_6, q97_7, W_1, W_I, W_mk, W_tk, pm_rv, rf_0_0, rf_0_1, rf_0_2, rf_0_3, rf_0_4, rf_0_7, rf_0_8, rf_1_0, rf_1_2, rf_3_0, rf_3_1, rf_3_6, rf_3_7, rf_3_8, rf_9_0, rf_9_1, rf_10_0, rf_10_1, rf_10_6, rf_10_7, rf_10_8, rf_17_0, rf_17_1, rf_538_2, rf_538_6, rf_538_7, rf_538_9, rf_538_11, rf_538_12, rf_538_18, rf_538_19, rf_538_22, rf_538_23, rf_538_25, rf_538_27, rf_538_28, rf_538_30, rf_538_31, rf_538_32, rf_538_33, rf_538_34, rf_538_35, rf_538_36, ob_0, ob_1, ob_3, ob_9, ob_10, ob_17, ob_538, ar_2, ar_4, ar_5, ar_6, ar_7, ar_8, ar_11, ar_12, ar_13, ar_14, ar_15, ar_16, ar_116, ar_117, ar_539, ar_540, ar_541, ar_542, ar_543, ar_544, ar_545, ar_546, ar_547, ar_548, ar_549, ar_550, ar_551, ar_552, ar_553, ar_554, ar_555, ar_556, ar_557, ar_558, ex_eq, ex_ite, pm_bk_r, pm_bk_t, ol_nil, ol_one, true_and, and_true, false_and, and_false, reduceIte, Nat.reduceEqDiff, up_at, Nat.add_left_cancel_iff]
      refine ⟨fun x hx => ?_, fun hx => ?_⟩
      · obtain ⟨J, g1, g2, g3⟩ := hu.1 x hx
        refine ⟨J, g1, g2, fun q => ?_⟩
        show pm_C (d + 2 * (f + 1) + 5) 97 _ _ q ↔ _
        rw [hopen]
        simp only [g3, ex_eq, ex_ite, pm_bk_r, pm_bk_t, ol_nil, ol_one, true_and, and_true, false_and, and_false, reduceIte, Nat.reduceEqDiff, up_at, Nat.add_left_cancel_iff, q97_10]
      · obtain ⟨J, g1, g2⟩ := hu.2 hx
        refine ⟨J, g1, fun q => ?_⟩
        show pm_C (d + 2 * (f + 1) + 5) 97 _ _ q ↔ _
        rw [hopen]
        simp only [g2, ex_eq, ex_ite, pm_bk_r, pm_bk_t, ol_nil, ol_one, true_and, and_true, false_and, and_false, reduceIte, Nat.reduceEqDiff, up_at, Nat.add_left_cancel_iff]
    · have hX := ih (l + 1) b (d + 1) (by omega) hb (by omega)
      have hX' : EX k o T ch (fun M q => pm_C (d + 2 * f + 1 + 5) 97 [.ref 1, .int (nI (l + 1)), .int (nI b)] M q) (e_expr T ch f (l + 1) b) := by
        rw [show d + 2 * f + 1 + 5 = d + 1 + 2 * f + 5 by omega]
        exact hX
      have h1 := hX' p K I h hK hp
      have e5 : (nI l < 5) ↔ True := iff_true_intro (by rw [show (5 : Int32) = nI 5 from rfl, sm_lt (by omega) (by omega)]; omega)
      have hopen : ∀ q, (pm_C (d + 2 * (f + 1) + 5) 97 [.ref 1, .int (nI l), .int (nI b)] (Wm I k o) q ↔ ∃ r, pm_C (d + 2 * f + 1 + 5) 97 [.ref 1, .int (nI (l + 1)), .int (nI b)] (Wm I k o) r ∧ pm_bk (fun v M' => pm_R (d + 2 * f + 1 + 5) 97 19 [some (.ref 1), some (.int (nI l)), some (.int (nI b)), none, none] (v.toList ++ []) M' q) (fun k M' => q = (.inr k, M')) r) := by
        intro q
        rw [show d + 2 * (f + 1) + 5 = (d + 2 * f + 1 + 5) + 1 by omega, n97]
        simp (decide := true) only [q97_0, q97_1, q97_2, q97_11, q97_12, q97_13, q97_14, q97_15, q97_16, W_1, W_I, W_mk, W_tk, pm_rv, rf_0_0, rf_0_1, rf_0_2, rf_0_3, rf_0_4, rf_0_7, rf_0_8, rf_1_0, rf_1_2, rf_3_0, rf_3_1, rf_3_6, rf_3_7, rf_3_8, rf_9_0, rf_9_1, rf_10_0, rf_10_1, rf_10_6, rf_10_7, rf_10_8, rf_17_0, rf_17_1, rf_538_2, rf_538_6, rf_538_7, rf_538_9, rf_538_11, rf_538_12, rf_538_18, rf_538_19, rf_538_22, rf_538_23, rf_538_25, rf_538_27, rf_538_28, rf_538_30, rf_538_31, rf_538_32, rf_538_33, rf_538_34, rf_538_35, rf_538_36, ob_0, ob_1, ob_3, ob_9, ob_10, ob_17, ob_538, ar_2, ar_4, ar_5, ar_6, ar_7, ar_8, ar_11, ar_12, ar_13, ar_14, ar_15, ar_16, ar_116, ar_117, ar_539, ar_540, ar_541, ar_542, ar_543, ar_544, ar_545, ar_546, ar_547, ar_548, ar_549, ar_550, ar_551, ar_552, ar_553, ar_554, ar_555, ar_556, ar_557, ar_558, ex_eq, ex_ite, pm_bk_r, pm_bk_t, ol_nil, ol_one, true_and, and_true, false_and, and_false, reduceIte, Nat.reduceEqDiff, up_at, Nat.add_left_cancel_iff, e5, sm_s]
      have ee : e_expr T ch (f + 1) l b p = match e_expr T ch f (l + 1) b p with
        | none => none
        | some (p1, C1) => e_ops T l (fun p => e_expr T ch f (l + 1) b p) 240 p1 C1 := if_neg l5
      rw [ee]
      cases e1 : e_expr T ch f (l + 1) b p with
      | none =>
        refine ⟨fun x hx => (by cases hx), fun _ => ?_⟩
        obtain ⟨J, g1, g2⟩ := h1.2 e1
        refine ⟨J, g1, fun q => ?_⟩
        show pm_C (d + 2 * (f + 1) + 5) 97 _ _ q ↔ _
        rw [hopen]
        simp only [g2, ex_eq, ex_ite, pm_bk_r, pm_bk_t, ol_nil, ol_one, true_and, and_true, false_and, and_false, reduceIte, Nat.reduceEqDiff, up_at, Nat.add_left_cancel_iff]
      | some y =>
        obtain ⟨p1, C1⟩ := y
        obtain ⟨J, g1, g2, g3⟩ := h1.1 _ e1
        have hg := e_expr_ok _ _ _ _ _ e1
        have hg2 : C1.length + p ≤ p1 := hg.2.2.1
        have hr := c97_l (d := d + 2 * f + 1) (k := k) (o := o) hT (show l < 5 by omega) (fun p x h => e_expr_ok _ _ _ _ _ h) hX' (K0 := K) 240 0 p1 C1 J none rfl g1 (by rw [List.length_append]; omega) hg.2.1
        simp only []
        refine ⟨fun x hx => ?_, fun hx => ?_⟩
        · obtain ⟨J', f1, f2, f3⟩ := hr.1 x hx
          refine ⟨J', f1, g2.trans f2, fun q => ?_⟩
          show pm_C (d + 2 * (f + 1) + 5) 97 _ _ q ↔ _
          have f3' := f3 q
          rw [show nI 0 = (0 : Int32) from rfl] at f3'
          rw [hopen]
          simp only [g3, ex_eq, ex_ite, pm_bk_r, pm_bk_t, ol_nil, ol_one, true_and, and_true, false_and, and_false, reduceIte, Nat.reduceEqDiff, up_at, Nat.add_left_cancel_iff, q97_19, q97_20, f3']
        · obtain ⟨J', f1, f2⟩ := hr.2 hx
          refine ⟨J', g2.trans f1, fun q => ?_⟩
          show pm_C (d + 2 * (f + 1) + 5) 97 _ _ q ↔ _
          have f2' := f2 q
          rw [show nI 0 = (0 : Int32) from rfl] at f2'
          rw [hopen]
          simp only [g3, ex_eq, ex_ite, pm_bk_r, pm_bk_t, ol_nil, ol_one, true_and, and_true, false_and, and_false, reduceIte, Nat.reduceEqDiff, up_at, Nat.add_left_cancel_iff, q97_19, q97_20, f2']
/-- an expression, read from level 0 -/
def e_E (T : List Nat) (ch : Bool) (p : Nat) : Option (Nat × List (Nat × Nat)) := e_expr T ch 30 0 0 p
theorem c97E {T : List Nat} (hT : TX T) {ch : Bool} : EX k o T ch (fun M q => pm_C (d + 65) 97 [.ref 1, .int 0, .int 0] M q) (e_E T ch) := c97 hT 30 0 0 d (by omega) (by omega) (by omega)
end REX
